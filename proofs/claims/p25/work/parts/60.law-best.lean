def f_L_isBestSo_117_x (v : PV) (q12 : Int32 × Int32) (q117 : Int32) : Int32 := if q117 = 0 then 0 else if (f_X9_bestBarn v) = (-10000005) then if q12.2 = 0 then if (f_X9_showOf v 6 0) = (-10000005) then 1 else 0 else 0 else if q12.2 = 0 then 0 else if (f_X9_showOf v 6 0) = (-10000005) then 1 else 0
def st_L_isBestSo_117 (v : PV) (q12 : Int32 × Int32) (k117 : Nat) (q117 : Int32) : Int32 := if q117 = 0 then 0 else if (f_X9_showOf v (nI k117) 0) = (-10000005) then if (nI k117) < (f_X9_count v 9) then 0 else if (nI k117) = 0 then if (f_X9_count v 0) < (f_X9_showOf v (nI k117) 0) then 0 else 1 else if (f_X9_showOf v ((nI k117) - 1) 0) < (f_X9_showOf v (nI k117) 0) then 0 else if (f_X9_count v 0) < (f_X9_showOf v (nI k117) 0) then 0 else 1 else if (nI k117) < (f_X9_count v 9) then if (nI k117) = 0 then if (f_X9_count v 0) < (f_X9_showOf v (nI k117) 0) then 0 else 1 else if (f_X9_showOf v ((nI k117) - 1) 0) < (f_X9_showOf v (nI k117) 0) then 0 else if (f_X9_count v 0) < (f_X9_showOf v (nI k117) 0) then 0 else 1 else 0
def lp_L_isBestSo_117 (v : PV) (q12 : Int32 × Int32) (i0 : Int32) : Nat → Int32
  | 0 => i0
  | k + 1 => st_L_isBestSo_117 v q12 k (lp_L_isBestSo_117 v q12 i0 k)
theorem lp_L_isBestSo_117_0 (v : PV) (q12 : Int32 × Int32) (i0 : Int32) : lp_L_isBestSo_117 v q12 i0 0 = i0 := rfl
theorem lp_L_isBestSo_117_s (v : PV) (q12 : Int32 × Int32) (i0 : Int32) (k : Nat) : lp_L_isBestSo_117 v q12 i0 (k + 1) = st_L_isBestSo_117 v q12 k (lp_L_isBestSo_117 v q12 i0 k) := rfl
def f_L_isBestSo_12_x (v : PV) (q12 : Int32 × Int32) : Int32 := f_L_isBestSo_117_x v q12 (lp_L_isBestSo_117 v q12 q12.1 6)
def st_L_isBestSo_12 (v : PV) (k12 : Nat) (q12 : Int32 × Int32) : Int32 × Int32 := if (f_X9_barn v (nI k12) 6) = 0 then if q12.2 = 0 then if q12.1 = 0 then (0, 1) else if (f_X9_bestBarn v) < 0 then (0, 1) else if (f_X9_ifPrice v (nI k12) 4) < (f_X9_ifPrice v (f_X9_bestBarn v) 4) then (1, 1) else if (f_X9_ifPrice v (f_X9_bestBarn v) 4) = (f_X9_ifPrice v (nI k12) 4) then if (nI k12) < (f_X9_bestBarn v) then (0, 1) else (1, 1) else (0, 1) else if q12.1 = 0 then (0, 1) else if (f_X9_bestBarn v) < 0 then (0, 1) else if (f_X9_ifPrice v (nI k12) 4) < (f_X9_ifPrice v (f_X9_bestBarn v) 4) then (1, 1) else if (f_X9_ifPrice v (f_X9_bestBarn v) 4) = (f_X9_ifPrice v (nI k12) 4) then if (nI k12) < (f_X9_bestBarn v) then (0, 1) else (1, 1) else (0, 1) else if q12.2 = 0 then if q12.1 = 0 then (0, 0) else (1, 0) else if q12.1 = 0 then (0, 1) else (1, 1)
def lp_L_isBestSo_12 (v : PV) (i0 : Int32 × Int32) : Nat → Int32 × Int32
  | 0 => i0
  | k + 1 => st_L_isBestSo_12 v k (lp_L_isBestSo_12 v i0 k)
theorem lp_L_isBestSo_12_0 (v : PV) (i0 : Int32 × Int32) : lp_L_isBestSo_12 v i0 0 = i0 := rfl
theorem lp_L_isBestSo_12_s (v : PV) (i0 : Int32 × Int32) (k : Nat) : lp_L_isBestSo_12 v i0 (k + 1) = st_L_isBestSo_12 v k (lp_L_isBestSo_12 v i0 k) := rfl
def f_L_isBestSo (v : PV) : Int32 := f_L_isBestSo_12_x v (lp_L_isBestSo_12 v (1, 0) 5)
set_option maxRecDepth 100000 in
set_option maxHeartbeats 20000000 in
theorem c_L_isBestSo (l : Launch) (D : va_G) (z : ClassId × ClassId × ClassId) (tM tS : Nat) (h : Nat) (a b c9 : Nat → Nat) (hh hh1 : Nat) (d0 d1 d2 d3 : Nat → Nat) (t9 t91 r9 r91 r92 r93 : Nat) (v : PV) (hn : v.2.2.2.1.2.1 = nI v.2.2.2.1.2.1.toNatClampNeg) (hn4 : v.2.2.2.1.2.1.toNatClampNeg < 4) (hV : vp_in v.1.2.2.2.2.2.1 5) (hW : WOK v.1.1) (hM : MOK v.1.1) (hLs : v.1.2.2.2.1.2.toInt ≤ 6) (sz : Nat) : CI l yL_isBestSo wsL_isBestSo 5 112 0 0 [.ref h] D z (wX9 z h a b c9 hh hh1 d0 d1 d2 d3 t9 t91 r9 r91 r92 r93 v) sz (EV tM tS) (fun (zr : Int32) (_ : Unit) => zr = f_L_isBestSo v ∧ (zr = 0 ∨ zr = 1)) (fun _ => wX9 z h a b c9 hh hh1 d0 d1 d2 d3 t9 t91 r9 r91 r92 r93 v) := by
  refine met_i cL_isBestSo 6 (some .boolean) (by decide) rfl (Nat.le_of_ble_eq_true rfl) ?_
  intro p e s m args below meth c R Q hx hb hr hml hts hown hlocks hin hRf hRl hRc hRs hc0 hs0 A H hA hP hK hD hS hE hQ ls hl
  have hl : lv_has ls 6 [(0, .ref h)] := hl
  have hP : va_P D vwCl (wX9 z h a b c9 hh hh1 d0 d1 d2 d3 t9 t91 r9 r91 r92 r93 v) H := hP
  have hD : va_D A (wX9 z h a b c9 hh hh1 d0 d1 d2 d3 t9 t91 r9 r91 r92 r93 v) := hD
  have hown : s.vm.findClass RL = some m.cls := hown
  refine lv_aload_n hx hb dL_isBestSo_0 rfl (lv_at hl 0 rfl) ?_
  refine call_W (w1 := fun _ => wX9 z h a b c9 hh hh1 d0 d1 d2 d3 t9 t91 r9 r91 r92 r93 v) len9 (fun _ => len9) (rV (As := []) (rest := []) ⟨hx, hb, hml, hown, hts⟩ (c_X9_bestBarn l D z tM tS h a b c9 hh hh1 d0 d1 d2 d3 t9 t91 r9 r91 r92 r93 v H.size) (cwV 0 hts gL_isBestSo_X9_bestBarn rfl rfl rfl (by decide +kernel) ⟨Nat.le_trans (by decide) hRf, Nat.le_trans (by decide) hRl⟩) (ev_ok tM tS) (e_go (ev_ok tM tS) hE hD hS hA (List.range 128) (gN len9)) hK hP hD (List.range 128) nd128 (gN len9) (va_recv hK hP (ci := 9) (q0 := 0) rfl rfl) rfl hl.1 rfl (Nat.le_of_ble_eq_true rfl) dL_isBestSo_1 ⟨Nat.zero_le _, Nat.zero_le _⟩) hK hP hD hS hA (fun zr zu H locs hw hP hD hS => ?_)
  have hw : zr = (f_X9_bestBarn v) := hw
  subst hw
  have hP : va_P D vwCl (wX9 z h a b c9 hh hh1 d0 d1 d2 d3 t9 t91 r9 r91 r92 r93 v) H := hP
  have hD : va_D A (wX9 z h a b c9 hh hh1 d0 d1 d2 d3 t9 t91 r9 r91 r92 r93 v) := hD
  refine lv_istore_n (lv' := [(1, .int (f_X9_bestBarn v)), (0, .ref h)]) hx hb dL_isBestSo_4 rfl hl (by decide) rfl (fun ls hl => ?_)
  refine lv_iconst (v := 1) hx hb dL_isBestSo_5 (by decide) ?_
  refine lv_istore_n (lv' := [(2, .int 1), (1, .int (f_X9_bestBarn v)), (0, .ref h)]) hx hb dL_isBestSo_6 rfl hl (by decide) rfl (fun ls hl => ?_)
  refine lv_iconst (v := 0) hx hb dL_isBestSo_7 (by decide) ?_
  refine lv_istore_n (lv' := [(3, .int 0), (2, .int 1), (1, .int (f_X9_bestBarn v)), (0, .ref h)]) hx hb dL_isBestSo_8 rfl hl (by decide) rfl (fun ls hl => ?_)
  refine lv_iconst (v := 0) hx hb dL_isBestSo_9 (by decide) ?_
  refine lv_istore (lv' := [(4, .int 0), (3, .int 0), (2, .int 1), (1, .int (f_X9_bestBarn v)), (0, .ref h)]) hx hb dL_isBestSo_10 hl (by decide) rfl (fun ls hl => ?_)
  have L12 : ∀ (n12 k12 : Nat) (q12 : Int32 × Int32), q12 = lp_L_isBestSo_12 v (1, 0) k12 → k12 ≤ 5 → 5 + 1 ≤ k12 + n12 → ∀ (H : Heap) (locs : List Loc) (ls : Array Slot), va_P D vwCl (wX9 z h a b c9 hh hh1 d0 d1 d2 d3 t9 t91 r9 r91 r92 r93 v) H → va_D A (wX9 z h a b c9 hh hh1 d0 d1 d2 d3 t9 t91 r9 r91 r92 r93 v) → va_S A s.heap H locs → lv_has ls 6 [(4, .int (nI k12)), (3, .int q12.2), (2, .int q12.1), (1, .int (f_X9_bestBarn v)), (0, .ref h)] → W p l e R s m args below meth c H locs 0 0 Q (F0 m 12 ls []) := by
    intro n12
    induction n12 with
    | zero => intro k12 q12 hq12 h1 h2; exact absurd h2 (by omega)
    | succ n12 ih12 =>
      intro k12 q12 hq12 hk12 hn12 H locs ls hP hD hS hl
      refine lv_iload hx hb dL_isBestSo_12 (lv_at hl 0 rfl) ?_
      refine lv_iconst (v := 5) hx hb dL_isBestSo_14 (by decide) ?_
      rcases Nat.lt_or_ge k12 5 with hlt | hge
      · refine lv_icmp_ge (tgt := 114) hx hb dL_isBestSo_15 (by decide) (fun c_2 => absurd c_2 (nI_ge (a := k12) (b := 5) (by omega) (by omega))) (fun c_2 => ?_)
        refine lv_aload_n hx hb dL_isBestSo_18 rfl (lv_at hl 4 rfl) ?_
        refine lv_iload hx hb dL_isBestSo_19 (lv_at hl 0 rfl) ?_
        refine lv_bipush (v := 6) hx hb dL_isBestSo_21 (by decide) ?_
        refine call_W (w1 := fun _ => wX9 z h a b c9 hh hh1 d0 d1 d2 d3 t9 t91 r9 r91 r92 r93 v) len9 (fun _ => len9) (rV (As := [.int (nI k12), .int 6]) (rest := []) ⟨hx, hb, hml, hown, hts⟩ (c_X9_barn l D z tM tS h a b c9 hh hh1 d0 d1 d2 d3 t9 t91 r9 r91 r92 r93 v (nI k12) 6 H.size) (cwV 2 hts gL_isBestSo_X9_barn rfl rfl rfl (by decide +kernel) ⟨Nat.le_trans (by decide) hRf, Nat.le_trans (by decide) hRl⟩) (ev_ok tM tS) (e_go (ev_ok tM tS) hE hD hS hA (List.range 128) (gN len9)) hK hP hD (List.range 128) nd128 (gN len9) (va_recv hK hP (ci := 9) (q0 := 0) rfl rfl) rfl hl.1 rfl (Nat.le_of_ble_eq_true rfl) dL_isBestSo_23 ⟨Nat.zero_le _, Nat.zero_le _⟩) hK hP hD hS hA (fun zr zu H locs hw hP hD hS => ?_)
        have hw : zr = (f_X9_barn v (nI k12) 6) := hw
        subst hw
        have hP : va_P D vwCl (wX9 z h a b c9 hh hh1 d0 d1 d2 d3 t9 t91 r9 r91 r92 r93 v) H := hP
        have hD : va_D A (wX9 z h a b c9 hh hh1 d0 d1 d2 d3 t9 t91 r9 r91 r92 r93 v) := hD
        refine lv_if_ne (tgt := 33) hx hb dL_isBestSo_26 (by decide) (fun c_3 => ?_) (fun c_3 => ?_)
        · refine lv_iconst (v := 0) hx hb dL_isBestSo_33 (by decide) ?_
          refine lv_istore (lv' := [(5, .int 0), (4, .int (nI k12)), (3, .int q12.2), (2, .int q12.1), (1, .int (f_X9_bestBarn v)), (0, .ref h)]) hx hb dL_isBestSo_34 hl (by decide) rfl (fun ls hl => ?_)
          refine lv_iload_n hx hb dL_isBestSo_36 rfl (lv_at hl 2 rfl) ?_
          refine lv_if_ne (tgt := 45) hx hb dL_isBestSo_37 (by decide) (fun c_4 => ?_) (fun c_4 => ?_)
          · refine lv_iconst (v := 1) hx hb dL_isBestSo_45 (by decide) ?_
            refine lv_goto (tgt := 50) hx hb dL_isBestSo_46 (by decide) ?_
            refine lv_istore_n (lv' := [(3, .int 1), (5, .int 0), (4, .int (nI k12)), (2, .int q12.1), (1, .int (f_X9_bestBarn v)), (0, .ref h)]) hx hb dL_isBestSo_50 rfl hl (by decide) rfl (fun ls hl => ?_)
            refine lv_iload_n hx hb dL_isBestSo_51 rfl (lv_at hl 3 rfl) ?_
            refine lv_if_eq (tgt := 106) hx hb dL_isBestSo_52 (by decide) (fun c_5 => ?_) (fun c_5 => ?_)
            · refine lv_iconst (v := 0) hx hb dL_isBestSo_106 (by decide) ?_
              refine lv_istore_n (lv' := [(2, .int 0), (3, .int 1), (5, .int 0), (4, .int (nI k12)), (1, .int (f_X9_bestBarn v)), (0, .ref h)]) hx hb dL_isBestSo_107 rfl hl (by decide) rfl (fun ls hl => ?_)
              refine lv_iinc (v := nI (k12 + 1)) (lv' := [(4, .int (nI (k12 + 1))), (2, .int 0), (3, .int 1), (5, .int 0), (1, .int (f_X9_bestBarn v)), (0, .ref h)]) hx hb dL_isBestSo_108 hl (k := 3) rfl (nI_add k12 1) (by decide) rfl (fun ls hl => ?_)
              refine lv_goto (tgt := 12) hx hb dL_isBestSo_111 (by decide) ?_
              exact ih12 (k12 + 1) (0, 1) (by rw [lp_L_isBestSo_12_s, ← hq12]; unfold st_L_isBestSo_12; rw [if_neg c_3, if_neg c_4, if_pos c_5]; try rfl) (by omega) (by omega) _ _ _ hP hD hS (lv_sub hl [0, 2, 1, 4, 5] rfl)
            · refine lv_iload hx hb dL_isBestSo_55 (lv_at hl 1 rfl) ?_
              refine lv_if_eq (tgt := 102) hx hb dL_isBestSo_57 (by decide) (fun c_6 => ?_) (fun c_6 => absurd c_6 (by decide))
              refine lv_iconst (v := 1) hx hb dL_isBestSo_102 (by decide) ?_
              refine lv_goto (tgt := 107) hx hb dL_isBestSo_103 (by decide) ?_
              refine lv_istore_n (lv' := [(2, .int 1), (3, .int 1), (5, .int 0), (4, .int (nI k12)), (1, .int (f_X9_bestBarn v)), (0, .ref h)]) hx hb dL_isBestSo_107 rfl hl (by decide) rfl (fun ls hl => ?_)
              refine lv_iinc (v := nI (k12 + 1)) (lv' := [(4, .int (nI (k12 + 1))), (2, .int 1), (3, .int 1), (5, .int 0), (1, .int (f_X9_bestBarn v)), (0, .ref h)]) hx hb dL_isBestSo_108 hl (k := 3) rfl (nI_add k12 1) (by decide) rfl (fun ls hl => ?_)
              refine lv_goto (tgt := 12) hx hb dL_isBestSo_111 (by decide) ?_
              exact ih12 (k12 + 1) (1, 1) (by rw [lp_L_isBestSo_12_s, ← hq12]; unfold st_L_isBestSo_12; rw [if_neg c_3, if_neg c_4, if_neg c_5]; try rfl) (by omega) (by omega) _ _ _ hP hD hS (lv_sub hl [0, 2, 1, 4, 5] rfl)
          · refine lv_iload hx hb dL_isBestSo_40 (lv_at hl 0 rfl) ?_
            refine lv_if_eq (tgt := 49) hx hb dL_isBestSo_42 (by decide) (fun c_7 => ?_) (fun c_7 => absurd c_7 (by decide))
            refine lv_iconst (v := 0) hx hb dL_isBestSo_49 (by decide) ?_
            refine lv_istore_n (lv' := [(3, .int 0), (5, .int 0), (4, .int (nI k12)), (2, .int q12.1), (1, .int (f_X9_bestBarn v)), (0, .ref h)]) hx hb dL_isBestSo_50 rfl hl (by decide) rfl (fun ls hl => ?_)
            refine lv_iload_n hx hb dL_isBestSo_51 rfl (lv_at hl 3 rfl) ?_
            refine lv_if_eq (tgt := 106) hx hb dL_isBestSo_52 (by decide) (fun c_8 => ?_) (fun c_8 => ?_)
            · refine lv_iconst (v := 0) hx hb dL_isBestSo_106 (by decide) ?_
              refine lv_istore_n (lv' := [(2, .int 0), (3, .int 0), (5, .int 0), (4, .int (nI k12)), (1, .int (f_X9_bestBarn v)), (0, .ref h)]) hx hb dL_isBestSo_107 rfl hl (by decide) rfl (fun ls hl => ?_)
              refine lv_iinc (v := nI (k12 + 1)) (lv' := [(4, .int (nI (k12 + 1))), (2, .int 0), (3, .int 0), (5, .int 0), (1, .int (f_X9_bestBarn v)), (0, .ref h)]) hx hb dL_isBestSo_108 hl (k := 3) rfl (nI_add k12 1) (by decide) rfl (fun ls hl => ?_)
              refine lv_goto (tgt := 12) hx hb dL_isBestSo_111 (by decide) ?_
              exact ih12 (k12 + 1) (0, 0) (by rw [lp_L_isBestSo_12_s, ← hq12]; unfold st_L_isBestSo_12; rw [if_neg c_3, if_pos c_4, if_pos c_8]; try rfl) (by omega) (by omega) _ _ _ hP hD hS (lv_sub hl [0, 2, 1, 4, 5] rfl)
            · refine lv_iload hx hb dL_isBestSo_55 (lv_at hl 1 rfl) ?_
              refine lv_if_eq (tgt := 102) hx hb dL_isBestSo_57 (by decide) (fun c_9 => ?_) (fun c_9 => absurd c_9 (by decide))
              refine lv_iconst (v := 1) hx hb dL_isBestSo_102 (by decide) ?_
              refine lv_goto (tgt := 107) hx hb dL_isBestSo_103 (by decide) ?_
              refine lv_istore_n (lv' := [(2, .int 1), (3, .int 0), (5, .int 0), (4, .int (nI k12)), (1, .int (f_X9_bestBarn v)), (0, .ref h)]) hx hb dL_isBestSo_107 rfl hl (by decide) rfl (fun ls hl => ?_)
              refine lv_iinc (v := nI (k12 + 1)) (lv' := [(4, .int (nI (k12 + 1))), (2, .int 1), (3, .int 0), (5, .int 0), (1, .int (f_X9_bestBarn v)), (0, .ref h)]) hx hb dL_isBestSo_108 hl (k := 3) rfl (nI_add k12 1) (by decide) rfl (fun ls hl => ?_)
              refine lv_goto (tgt := 12) hx hb dL_isBestSo_111 (by decide) ?_
              exact ih12 (k12 + 1) (1, 0) (by rw [lp_L_isBestSo_12_s, ← hq12]; unfold st_L_isBestSo_12; rw [if_neg c_3, if_pos c_4, if_neg c_8]; try rfl) (by omega) (by omega) _ _ _ hP hD hS (lv_sub hl [0, 2, 1, 4, 5] rfl)
        · refine lv_iconst (v := 1) hx hb dL_isBestSo_29 (by decide) ?_
          refine lv_goto (tgt := 34) hx hb dL_isBestSo_30 (by decide) ?_
          refine lv_istore (lv' := [(5, .int 1), (4, .int (nI k12)), (3, .int q12.2), (2, .int q12.1), (1, .int (f_X9_bestBarn v)), (0, .ref h)]) hx hb dL_isBestSo_34 hl (by decide) rfl (fun ls hl => ?_)
          refine lv_iload_n hx hb dL_isBestSo_36 rfl (lv_at hl 2 rfl) ?_
          refine lv_if_ne (tgt := 45) hx hb dL_isBestSo_37 (by decide) (fun c_10 => ?_) (fun c_10 => ?_)
          · refine lv_iconst (v := 1) hx hb dL_isBestSo_45 (by decide) ?_
            refine lv_goto (tgt := 50) hx hb dL_isBestSo_46 (by decide) ?_
            refine lv_istore_n (lv' := [(3, .int 1), (5, .int 1), (4, .int (nI k12)), (2, .int q12.1), (1, .int (f_X9_bestBarn v)), (0, .ref h)]) hx hb dL_isBestSo_50 rfl hl (by decide) rfl (fun ls hl => ?_)
            refine lv_iload_n hx hb dL_isBestSo_51 rfl (lv_at hl 3 rfl) ?_
            refine lv_if_eq (tgt := 106) hx hb dL_isBestSo_52 (by decide) (fun c_11 => ?_) (fun c_11 => ?_)
            · refine lv_iconst (v := 0) hx hb dL_isBestSo_106 (by decide) ?_
              refine lv_istore_n (lv' := [(2, .int 0), (3, .int 1), (5, .int 1), (4, .int (nI k12)), (1, .int (f_X9_bestBarn v)), (0, .ref h)]) hx hb dL_isBestSo_107 rfl hl (by decide) rfl (fun ls hl => ?_)
              refine lv_iinc (v := nI (k12 + 1)) (lv' := [(4, .int (nI (k12 + 1))), (2, .int 0), (3, .int 1), (5, .int 1), (1, .int (f_X9_bestBarn v)), (0, .ref h)]) hx hb dL_isBestSo_108 hl (k := 3) rfl (nI_add k12 1) (by decide) rfl (fun ls hl => ?_)
              refine lv_goto (tgt := 12) hx hb dL_isBestSo_111 (by decide) ?_
              exact ih12 (k12 + 1) (0, 1) (by rw [lp_L_isBestSo_12_s, ← hq12]; unfold st_L_isBestSo_12; rw [if_pos c_3, if_neg c_10, if_pos c_11]; try rfl) (by omega) (by omega) _ _ _ hP hD hS (lv_sub hl [0, 2, 1, 4, 5] rfl)
            · refine lv_iload hx hb dL_isBestSo_55 (lv_at hl 1 rfl) ?_
              refine lv_if_eq (tgt := 102) hx hb dL_isBestSo_57 (by decide) (fun c_12 => absurd c_12 (by decide)) (fun c_12 => ?_)
              refine lv_iload_n hx hb dL_isBestSo_60 rfl (lv_at hl 4 rfl) ?_
              refine lv_if_lt (tgt := 106) hx hb dL_isBestSo_61 (by decide) (fun c_13 => ?_) (fun c_13 => ?_)
              · refine lv_iconst (v := 0) hx hb dL_isBestSo_106 (by decide) ?_
                refine lv_istore_n (lv' := [(2, .int 0), (3, .int 1), (5, .int 1), (4, .int (nI k12)), (1, .int (f_X9_bestBarn v)), (0, .ref h)]) hx hb dL_isBestSo_107 rfl hl (by decide) rfl (fun ls hl => ?_)
                refine lv_iinc (v := nI (k12 + 1)) (lv' := [(4, .int (nI (k12 + 1))), (2, .int 0), (3, .int 1), (5, .int 1), (1, .int (f_X9_bestBarn v)), (0, .ref h)]) hx hb dL_isBestSo_108 hl (k := 3) rfl (nI_add k12 1) (by decide) rfl (fun ls hl => ?_)
                refine lv_goto (tgt := 12) hx hb dL_isBestSo_111 (by decide) ?_
                exact ih12 (k12 + 1) (0, 1) (by rw [lp_L_isBestSo_12_s, ← hq12]; unfold st_L_isBestSo_12; rw [if_pos c_3, if_neg c_10, if_neg c_11, if_pos c_13]; try rfl) (by omega) (by omega) _ _ _ hP hD hS (lv_sub hl [0, 2, 1, 4, 5] rfl)
              · refine lv_aload_n hx hb dL_isBestSo_64 rfl (lv_at hl 5 rfl) ?_
                refine lv_iload_n hx hb dL_isBestSo_65 rfl (lv_at hl 4 rfl) ?_
                refine lv_iconst (v := 4) hx hb dL_isBestSo_66 (by decide) ?_
                refine call_W (w1 := fun _ => wX9 z h a b c9 hh hh1 d0 d1 d2 d3 t9 t91 r9 r91 r92 r93 v) len9 (fun _ => len9) (rV (As := [.int (f_X9_bestBarn v), .int 4]) (rest := []) ⟨hx, hb, hml, hown, hts⟩ (c_X9_ifPrice l D z tM tS h a b c9 hh hh1 d0 d1 d2 d3 t9 t91 r9 r91 r92 r93 v (f_X9_bestBarn v) 4 H.size) (cwV 2 hts gL_isBestSo_X9_ifPrice rfl rfl rfl (by decide +kernel) ⟨Nat.le_trans (by decide) hRf, Nat.le_trans (by decide) hRl⟩) (ev_ok tM tS) (e_go (ev_ok tM tS) hE hD hS hA (List.range 128) (gN len9)) hK hP hD (List.range 128) nd128 (gN len9) (va_recv hK hP (ci := 9) (q0 := 0) rfl rfl) rfl hl.1 rfl (Nat.le_of_ble_eq_true rfl) dL_isBestSo_67 ⟨Nat.zero_le _, Nat.zero_le _⟩) hK hP hD hS hA (fun zr zu H locs hw hP hD hS => ?_)
                have hw : zr = (f_X9_ifPrice v (f_X9_bestBarn v) 4) := hw
                subst hw
                have hP : va_P D vwCl (wX9 z h a b c9 hh hh1 d0 d1 d2 d3 t9 t91 r9 r91 r92 r93 v) H := hP
                have hD : va_D A (wX9 z h a b c9 hh hh1 d0 d1 d2 d3 t9 t91 r9 r91 r92 r93 v) := hD
                refine lv_aload_n hx hb dL_isBestSo_70 rfl (lv_at hl 5 rfl) ?_
                refine lv_iload hx hb dL_isBestSo_71 (lv_at hl 2 rfl) ?_
                refine lv_iconst (v := 4) hx hb dL_isBestSo_73 (by decide) ?_
                refine call_W (w1 := fun _ => wX9 z h a b c9 hh hh1 d0 d1 d2 d3 t9 t91 r9 r91 r92 r93 v) len9 (fun _ => len9) (rV (As := [.int (nI k12), .int 4]) (rest := [.int (f_X9_ifPrice v (f_X9_bestBarn v) 4)]) ⟨hx, hb, hml, hown, hts⟩ (c_X9_ifPrice l D z tM tS h a b c9 hh hh1 d0 d1 d2 d3 t9 t91 r9 r91 r92 r93 v (nI k12) 4 H.size) (cwV 2 hts gL_isBestSo_X9_ifPrice rfl rfl rfl (by decide +kernel) ⟨Nat.le_trans (by decide) hRf, Nat.le_trans (by decide) hRl⟩) (ev_ok tM tS) (e_go (ev_ok tM tS) hE hD hS hA (List.range 128) (gN len9)) hK hP hD (List.range 128) nd128 (gN len9) (va_recv hK hP (ci := 9) (q0 := 0) rfl rfl) rfl hl.1 rfl (Nat.le_of_ble_eq_true rfl) dL_isBestSo_74 ⟨Nat.zero_le _, Nat.zero_le _⟩) hK hP hD hS hA (fun zr zu H locs hw hP hD hS => ?_)
                have hw : zr = (f_X9_ifPrice v (nI k12) 4) := hw
                subst hw
                have hP : va_P D vwCl (wX9 z h a b c9 hh hh1 d0 d1 d2 d3 t9 t91 r9 r91 r92 r93 v) H := hP
                have hD : va_D A (wX9 z h a b c9 hh hh1 d0 d1 d2 d3 t9 t91 r9 r91 r92 r93 v) := hD
                refine lv_icmp_gt (tgt := 102) hx hb dL_isBestSo_77 (by decide) (fun c_14 => ?_) (fun c_14 => ?_)
                · refine lv_iconst (v := 1) hx hb dL_isBestSo_102 (by decide) ?_
                  refine lv_goto (tgt := 107) hx hb dL_isBestSo_103 (by decide) ?_
                  refine lv_istore_n (lv' := [(2, .int 1), (3, .int 1), (5, .int 1), (4, .int (nI k12)), (1, .int (f_X9_bestBarn v)), (0, .ref h)]) hx hb dL_isBestSo_107 rfl hl (by decide) rfl (fun ls hl => ?_)
                  refine lv_iinc (v := nI (k12 + 1)) (lv' := [(4, .int (nI (k12 + 1))), (2, .int 1), (3, .int 1), (5, .int 1), (1, .int (f_X9_bestBarn v)), (0, .ref h)]) hx hb dL_isBestSo_108 hl (k := 3) rfl (nI_add k12 1) (by decide) rfl (fun ls hl => ?_)
                  refine lv_goto (tgt := 12) hx hb dL_isBestSo_111 (by decide) ?_
                  exact ih12 (k12 + 1) (1, 1) (by rw [lp_L_isBestSo_12_s, ← hq12]; unfold st_L_isBestSo_12; rw [if_pos c_3, if_neg c_10, if_neg c_11, if_neg c_13, if_pos c_14]; try rfl) (by omega) (by omega) _ _ _ hP hD hS (lv_sub hl [0, 2, 1, 4, 5] rfl)
                · refine lv_aload_n hx hb dL_isBestSo_80 rfl (lv_at hl 5 rfl) ?_
                  refine lv_iload_n hx hb dL_isBestSo_81 rfl (lv_at hl 4 rfl) ?_
                  refine lv_iconst (v := 4) hx hb dL_isBestSo_82 (by decide) ?_
                  refine call_W (w1 := fun _ => wX9 z h a b c9 hh hh1 d0 d1 d2 d3 t9 t91 r9 r91 r92 r93 v) len9 (fun _ => len9) (rV (As := [.int (f_X9_bestBarn v), .int 4]) (rest := []) ⟨hx, hb, hml, hown, hts⟩ (c_X9_ifPrice l D z tM tS h a b c9 hh hh1 d0 d1 d2 d3 t9 t91 r9 r91 r92 r93 v (f_X9_bestBarn v) 4 H.size) (cwV 2 hts gL_isBestSo_X9_ifPrice rfl rfl rfl (by decide +kernel) ⟨Nat.le_trans (by decide) hRf, Nat.le_trans (by decide) hRl⟩) (ev_ok tM tS) (e_go (ev_ok tM tS) hE hD hS hA (List.range 128) (gN len9)) hK hP hD (List.range 128) nd128 (gN len9) (va_recv hK hP (ci := 9) (q0 := 0) rfl rfl) rfl hl.1 rfl (Nat.le_of_ble_eq_true rfl) dL_isBestSo_83 ⟨Nat.zero_le _, Nat.zero_le _⟩) hK hP hD hS hA (fun zr zu H locs hw hP hD hS => ?_)
                  have hw : zr = (f_X9_ifPrice v (f_X9_bestBarn v) 4) := hw
                  subst hw
                  have hP : va_P D vwCl (wX9 z h a b c9 hh hh1 d0 d1 d2 d3 t9 t91 r9 r91 r92 r93 v) H := hP
                  have hD : va_D A (wX9 z h a b c9 hh hh1 d0 d1 d2 d3 t9 t91 r9 r91 r92 r93 v) := hD
                  refine lv_aload_n hx hb dL_isBestSo_86 rfl (lv_at hl 5 rfl) ?_
                  refine lv_iload hx hb dL_isBestSo_87 (lv_at hl 2 rfl) ?_
                  refine lv_iconst (v := 4) hx hb dL_isBestSo_89 (by decide) ?_
                  refine call_W (w1 := fun _ => wX9 z h a b c9 hh hh1 d0 d1 d2 d3 t9 t91 r9 r91 r92 r93 v) len9 (fun _ => len9) (rV (As := [.int (nI k12), .int 4]) (rest := [.int (f_X9_ifPrice v (f_X9_bestBarn v) 4)]) ⟨hx, hb, hml, hown, hts⟩ (c_X9_ifPrice l D z tM tS h a b c9 hh hh1 d0 d1 d2 d3 t9 t91 r9 r91 r92 r93 v (nI k12) 4 H.size) (cwV 2 hts gL_isBestSo_X9_ifPrice rfl rfl rfl (by decide +kernel) ⟨Nat.le_trans (by decide) hRf, Nat.le_trans (by decide) hRl⟩) (ev_ok tM tS) (e_go (ev_ok tM tS) hE hD hS hA (List.range 128) (gN len9)) hK hP hD (List.range 128) nd128 (gN len9) (va_recv hK hP (ci := 9) (q0 := 0) rfl rfl) rfl hl.1 rfl (Nat.le_of_ble_eq_true rfl) dL_isBestSo_90 ⟨Nat.zero_le _, Nat.zero_le _⟩) hK hP hD hS hA (fun zr zu H locs hw hP hD hS => ?_)
                  have hw : zr = (f_X9_ifPrice v (nI k12) 4) := hw
                  subst hw
                  have hP : va_P D vwCl (wX9 z h a b c9 hh hh1 d0 d1 d2 d3 t9 t91 r9 r91 r92 r93 v) H := hP
                  have hD : va_D A (wX9 z h a b c9 hh hh1 d0 d1 d2 d3 t9 t91 r9 r91 r92 r93 v) := hD
                  refine lv_icmp_ne (tgt := 106) hx hb dL_isBestSo_93 (by decide) (fun c_15 => ?_) (fun c_15 => ?_)
                  · refine lv_iconst (v := 0) hx hb dL_isBestSo_106 (by decide) ?_
                    refine lv_istore_n (lv' := [(2, .int 0), (3, .int 1), (5, .int 1), (4, .int (nI k12)), (1, .int (f_X9_bestBarn v)), (0, .ref h)]) hx hb dL_isBestSo_107 rfl hl (by decide) rfl (fun ls hl => ?_)
                    refine lv_iinc (v := nI (k12 + 1)) (lv' := [(4, .int (nI (k12 + 1))), (2, .int 0), (3, .int 1), (5, .int 1), (1, .int (f_X9_bestBarn v)), (0, .ref h)]) hx hb dL_isBestSo_108 hl (k := 3) rfl (nI_add k12 1) (by decide) rfl (fun ls hl => ?_)
                    refine lv_goto (tgt := 12) hx hb dL_isBestSo_111 (by decide) ?_
                    exact ih12 (k12 + 1) (0, 1) (by rw [lp_L_isBestSo_12_s, ← hq12]; unfold st_L_isBestSo_12; rw [if_pos c_3, if_neg c_10, if_neg c_11, if_neg c_13, if_neg c_14, if_neg c_15]; try rfl) (by omega) (by omega) _ _ _ hP hD hS (lv_sub hl [0, 2, 1, 4, 5] rfl)
                  · refine lv_iload_n hx hb dL_isBestSo_96 rfl (lv_at hl 4 rfl) ?_
                    refine lv_iload hx hb dL_isBestSo_97 (lv_at hl 2 rfl) ?_
                    refine lv_icmp_gt (tgt := 106) hx hb dL_isBestSo_99 (by decide) (fun c_16 => ?_) (fun c_16 => ?_)
                    · refine lv_iconst (v := 0) hx hb dL_isBestSo_106 (by decide) ?_
                      refine lv_istore_n (lv' := [(2, .int 0), (3, .int 1), (5, .int 1), (4, .int (nI k12)), (1, .int (f_X9_bestBarn v)), (0, .ref h)]) hx hb dL_isBestSo_107 rfl hl (by decide) rfl (fun ls hl => ?_)
                      refine lv_iinc (v := nI (k12 + 1)) (lv' := [(4, .int (nI (k12 + 1))), (2, .int 0), (3, .int 1), (5, .int 1), (1, .int (f_X9_bestBarn v)), (0, .ref h)]) hx hb dL_isBestSo_108 hl (k := 3) rfl (nI_add k12 1) (by decide) rfl (fun ls hl => ?_)
                      refine lv_goto (tgt := 12) hx hb dL_isBestSo_111 (by decide) ?_
                      exact ih12 (k12 + 1) (0, 1) (by rw [lp_L_isBestSo_12_s, ← hq12]; unfold st_L_isBestSo_12; rw [if_pos c_3, if_neg c_10, if_neg c_11, if_neg c_13, if_neg c_14, if_pos c_15, if_pos c_16]; try rfl) (by omega) (by omega) _ _ _ hP hD hS (lv_sub hl [0, 2, 1, 4, 5] rfl)
                    · refine lv_iconst (v := 1) hx hb dL_isBestSo_102 (by decide) ?_
                      refine lv_goto (tgt := 107) hx hb dL_isBestSo_103 (by decide) ?_
                      refine lv_istore_n (lv' := [(2, .int 1), (3, .int 1), (5, .int 1), (4, .int (nI k12)), (1, .int (f_X9_bestBarn v)), (0, .ref h)]) hx hb dL_isBestSo_107 rfl hl (by decide) rfl (fun ls hl => ?_)
                      refine lv_iinc (v := nI (k12 + 1)) (lv' := [(4, .int (nI (k12 + 1))), (2, .int 1), (3, .int 1), (5, .int 1), (1, .int (f_X9_bestBarn v)), (0, .ref h)]) hx hb dL_isBestSo_108 hl (k := 3) rfl (nI_add k12 1) (by decide) rfl (fun ls hl => ?_)
                      refine lv_goto (tgt := 12) hx hb dL_isBestSo_111 (by decide) ?_
                      exact ih12 (k12 + 1) (1, 1) (by rw [lp_L_isBestSo_12_s, ← hq12]; unfold st_L_isBestSo_12; rw [if_pos c_3, if_neg c_10, if_neg c_11, if_neg c_13, if_neg c_14, if_pos c_15, if_neg c_16]; try rfl) (by omega) (by omega) _ _ _ hP hD hS (lv_sub hl [0, 2, 1, 4, 5] rfl)
          · refine lv_iload hx hb dL_isBestSo_40 (lv_at hl 0 rfl) ?_
            refine lv_if_eq (tgt := 49) hx hb dL_isBestSo_42 (by decide) (fun c_17 => absurd c_17 (by decide)) (fun c_17 => ?_)
            refine lv_iconst (v := 1) hx hb dL_isBestSo_45 (by decide) ?_
            refine lv_goto (tgt := 50) hx hb dL_isBestSo_46 (by decide) ?_
            refine lv_istore_n (lv' := [(3, .int 1), (5, .int 1), (4, .int (nI k12)), (2, .int q12.1), (1, .int (f_X9_bestBarn v)), (0, .ref h)]) hx hb dL_isBestSo_50 rfl hl (by decide) rfl (fun ls hl => ?_)
            refine lv_iload_n hx hb dL_isBestSo_51 rfl (lv_at hl 3 rfl) ?_
            refine lv_if_eq (tgt := 106) hx hb dL_isBestSo_52 (by decide) (fun c_18 => ?_) (fun c_18 => ?_)
            · refine lv_iconst (v := 0) hx hb dL_isBestSo_106 (by decide) ?_
              refine lv_istore_n (lv' := [(2, .int 0), (3, .int 1), (5, .int 1), (4, .int (nI k12)), (1, .int (f_X9_bestBarn v)), (0, .ref h)]) hx hb dL_isBestSo_107 rfl hl (by decide) rfl (fun ls hl => ?_)
              refine lv_iinc (v := nI (k12 + 1)) (lv' := [(4, .int (nI (k12 + 1))), (2, .int 0), (3, .int 1), (5, .int 1), (1, .int (f_X9_bestBarn v)), (0, .ref h)]) hx hb dL_isBestSo_108 hl (k := 3) rfl (nI_add k12 1) (by decide) rfl (fun ls hl => ?_)
              refine lv_goto (tgt := 12) hx hb dL_isBestSo_111 (by decide) ?_
              exact ih12 (k12 + 1) (0, 1) (by rw [lp_L_isBestSo_12_s, ← hq12]; unfold st_L_isBestSo_12; rw [if_pos c_3, if_pos c_10, if_pos c_18]; try rfl) (by omega) (by omega) _ _ _ hP hD hS (lv_sub hl [0, 2, 1, 4, 5] rfl)
            · refine lv_iload hx hb dL_isBestSo_55 (lv_at hl 1 rfl) ?_
              refine lv_if_eq (tgt := 102) hx hb dL_isBestSo_57 (by decide) (fun c_19 => absurd c_19 (by decide)) (fun c_19 => ?_)
              refine lv_iload_n hx hb dL_isBestSo_60 rfl (lv_at hl 4 rfl) ?_
              refine lv_if_lt (tgt := 106) hx hb dL_isBestSo_61 (by decide) (fun c_20 => ?_) (fun c_20 => ?_)
              · refine lv_iconst (v := 0) hx hb dL_isBestSo_106 (by decide) ?_
                refine lv_istore_n (lv' := [(2, .int 0), (3, .int 1), (5, .int 1), (4, .int (nI k12)), (1, .int (f_X9_bestBarn v)), (0, .ref h)]) hx hb dL_isBestSo_107 rfl hl (by decide) rfl (fun ls hl => ?_)
                refine lv_iinc (v := nI (k12 + 1)) (lv' := [(4, .int (nI (k12 + 1))), (2, .int 0), (3, .int 1), (5, .int 1), (1, .int (f_X9_bestBarn v)), (0, .ref h)]) hx hb dL_isBestSo_108 hl (k := 3) rfl (nI_add k12 1) (by decide) rfl (fun ls hl => ?_)
                refine lv_goto (tgt := 12) hx hb dL_isBestSo_111 (by decide) ?_
                exact ih12 (k12 + 1) (0, 1) (by rw [lp_L_isBestSo_12_s, ← hq12]; unfold st_L_isBestSo_12; rw [if_pos c_3, if_pos c_10, if_neg c_18, if_pos c_20]; try rfl) (by omega) (by omega) _ _ _ hP hD hS (lv_sub hl [0, 2, 1, 4, 5] rfl)
              · refine lv_aload_n hx hb dL_isBestSo_64 rfl (lv_at hl 5 rfl) ?_
                refine lv_iload_n hx hb dL_isBestSo_65 rfl (lv_at hl 4 rfl) ?_
                refine lv_iconst (v := 4) hx hb dL_isBestSo_66 (by decide) ?_
                refine call_W (w1 := fun _ => wX9 z h a b c9 hh hh1 d0 d1 d2 d3 t9 t91 r9 r91 r92 r93 v) len9 (fun _ => len9) (rV (As := [.int (f_X9_bestBarn v), .int 4]) (rest := []) ⟨hx, hb, hml, hown, hts⟩ (c_X9_ifPrice l D z tM tS h a b c9 hh hh1 d0 d1 d2 d3 t9 t91 r9 r91 r92 r93 v (f_X9_bestBarn v) 4 H.size) (cwV 2 hts gL_isBestSo_X9_ifPrice rfl rfl rfl (by decide +kernel) ⟨Nat.le_trans (by decide) hRf, Nat.le_trans (by decide) hRl⟩) (ev_ok tM tS) (e_go (ev_ok tM tS) hE hD hS hA (List.range 128) (gN len9)) hK hP hD (List.range 128) nd128 (gN len9) (va_recv hK hP (ci := 9) (q0 := 0) rfl rfl) rfl hl.1 rfl (Nat.le_of_ble_eq_true rfl) dL_isBestSo_67 ⟨Nat.zero_le _, Nat.zero_le _⟩) hK hP hD hS hA (fun zr zu H locs hw hP hD hS => ?_)
                have hw : zr = (f_X9_ifPrice v (f_X9_bestBarn v) 4) := hw
                subst hw
                have hP : va_P D vwCl (wX9 z h a b c9 hh hh1 d0 d1 d2 d3 t9 t91 r9 r91 r92 r93 v) H := hP
                have hD : va_D A (wX9 z h a b c9 hh hh1 d0 d1 d2 d3 t9 t91 r9 r91 r92 r93 v) := hD
                refine lv_aload_n hx hb dL_isBestSo_70 rfl (lv_at hl 5 rfl) ?_
                refine lv_iload hx hb dL_isBestSo_71 (lv_at hl 2 rfl) ?_
                refine lv_iconst (v := 4) hx hb dL_isBestSo_73 (by decide) ?_
                refine call_W (w1 := fun _ => wX9 z h a b c9 hh hh1 d0 d1 d2 d3 t9 t91 r9 r91 r92 r93 v) len9 (fun _ => len9) (rV (As := [.int (nI k12), .int 4]) (rest := [.int (f_X9_ifPrice v (f_X9_bestBarn v) 4)]) ⟨hx, hb, hml, hown, hts⟩ (c_X9_ifPrice l D z tM tS h a b c9 hh hh1 d0 d1 d2 d3 t9 t91 r9 r91 r92 r93 v (nI k12) 4 H.size) (cwV 2 hts gL_isBestSo_X9_ifPrice rfl rfl rfl (by decide +kernel) ⟨Nat.le_trans (by decide) hRf, Nat.le_trans (by decide) hRl⟩) (ev_ok tM tS) (e_go (ev_ok tM tS) hE hD hS hA (List.range 128) (gN len9)) hK hP hD (List.range 128) nd128 (gN len9) (va_recv hK hP (ci := 9) (q0 := 0) rfl rfl) rfl hl.1 rfl (Nat.le_of_ble_eq_true rfl) dL_isBestSo_74 ⟨Nat.zero_le _, Nat.zero_le _⟩) hK hP hD hS hA (fun zr zu H locs hw hP hD hS => ?_)
                have hw : zr = (f_X9_ifPrice v (nI k12) 4) := hw
                subst hw
                have hP : va_P D vwCl (wX9 z h a b c9 hh hh1 d0 d1 d2 d3 t9 t91 r9 r91 r92 r93 v) H := hP
                have hD : va_D A (wX9 z h a b c9 hh hh1 d0 d1 d2 d3 t9 t91 r9 r91 r92 r93 v) := hD
                refine lv_icmp_gt (tgt := 102) hx hb dL_isBestSo_77 (by decide) (fun c_21 => ?_) (fun c_21 => ?_)
                · refine lv_iconst (v := 1) hx hb dL_isBestSo_102 (by decide) ?_
                  refine lv_goto (tgt := 107) hx hb dL_isBestSo_103 (by decide) ?_
                  refine lv_istore_n (lv' := [(2, .int 1), (3, .int 1), (5, .int 1), (4, .int (nI k12)), (1, .int (f_X9_bestBarn v)), (0, .ref h)]) hx hb dL_isBestSo_107 rfl hl (by decide) rfl (fun ls hl => ?_)
                  refine lv_iinc (v := nI (k12 + 1)) (lv' := [(4, .int (nI (k12 + 1))), (2, .int 1), (3, .int 1), (5, .int 1), (1, .int (f_X9_bestBarn v)), (0, .ref h)]) hx hb dL_isBestSo_108 hl (k := 3) rfl (nI_add k12 1) (by decide) rfl (fun ls hl => ?_)
                  refine lv_goto (tgt := 12) hx hb dL_isBestSo_111 (by decide) ?_
                  exact ih12 (k12 + 1) (1, 1) (by rw [lp_L_isBestSo_12_s, ← hq12]; unfold st_L_isBestSo_12; rw [if_pos c_3, if_pos c_10, if_neg c_18, if_neg c_20, if_pos c_21]; try rfl) (by omega) (by omega) _ _ _ hP hD hS (lv_sub hl [0, 2, 1, 4, 5] rfl)
                · refine lv_aload_n hx hb dL_isBestSo_80 rfl (lv_at hl 5 rfl) ?_
                  refine lv_iload_n hx hb dL_isBestSo_81 rfl (lv_at hl 4 rfl) ?_
                  refine lv_iconst (v := 4) hx hb dL_isBestSo_82 (by decide) ?_
                  refine call_W (w1 := fun _ => wX9 z h a b c9 hh hh1 d0 d1 d2 d3 t9 t91 r9 r91 r92 r93 v) len9 (fun _ => len9) (rV (As := [.int (f_X9_bestBarn v), .int 4]) (rest := []) ⟨hx, hb, hml, hown, hts⟩ (c_X9_ifPrice l D z tM tS h a b c9 hh hh1 d0 d1 d2 d3 t9 t91 r9 r91 r92 r93 v (f_X9_bestBarn v) 4 H.size) (cwV 2 hts gL_isBestSo_X9_ifPrice rfl rfl rfl (by decide +kernel) ⟨Nat.le_trans (by decide) hRf, Nat.le_trans (by decide) hRl⟩) (ev_ok tM tS) (e_go (ev_ok tM tS) hE hD hS hA (List.range 128) (gN len9)) hK hP hD (List.range 128) nd128 (gN len9) (va_recv hK hP (ci := 9) (q0 := 0) rfl rfl) rfl hl.1 rfl (Nat.le_of_ble_eq_true rfl) dL_isBestSo_83 ⟨Nat.zero_le _, Nat.zero_le _⟩) hK hP hD hS hA (fun zr zu H locs hw hP hD hS => ?_)
                  have hw : zr = (f_X9_ifPrice v (f_X9_bestBarn v) 4) := hw
                  subst hw
                  have hP : va_P D vwCl (wX9 z h a b c9 hh hh1 d0 d1 d2 d3 t9 t91 r9 r91 r92 r93 v) H := hP
                  have hD : va_D A (wX9 z h a b c9 hh hh1 d0 d1 d2 d3 t9 t91 r9 r91 r92 r93 v) := hD
                  refine lv_aload_n hx hb dL_isBestSo_86 rfl (lv_at hl 5 rfl) ?_
                  refine lv_iload hx hb dL_isBestSo_87 (lv_at hl 2 rfl) ?_
                  refine lv_iconst (v := 4) hx hb dL_isBestSo_89 (by decide) ?_
                  refine call_W (w1 := fun _ => wX9 z h a b c9 hh hh1 d0 d1 d2 d3 t9 t91 r9 r91 r92 r93 v) len9 (fun _ => len9) (rV (As := [.int (nI k12), .int 4]) (rest := [.int (f_X9_ifPrice v (f_X9_bestBarn v) 4)]) ⟨hx, hb, hml, hown, hts⟩ (c_X9_ifPrice l D z tM tS h a b c9 hh hh1 d0 d1 d2 d3 t9 t91 r9 r91 r92 r93 v (nI k12) 4 H.size) (cwV 2 hts gL_isBestSo_X9_ifPrice rfl rfl rfl (by decide +kernel) ⟨Nat.le_trans (by decide) hRf, Nat.le_trans (by decide) hRl⟩) (ev_ok tM tS) (e_go (ev_ok tM tS) hE hD hS hA (List.range 128) (gN len9)) hK hP hD (List.range 128) nd128 (gN len9) (va_recv hK hP (ci := 9) (q0 := 0) rfl rfl) rfl hl.1 rfl (Nat.le_of_ble_eq_true rfl) dL_isBestSo_90 ⟨Nat.zero_le _, Nat.zero_le _⟩) hK hP hD hS hA (fun zr zu H locs hw hP hD hS => ?_)
                  have hw : zr = (f_X9_ifPrice v (nI k12) 4) := hw
                  subst hw
                  have hP : va_P D vwCl (wX9 z h a b c9 hh hh1 d0 d1 d2 d3 t9 t91 r9 r91 r92 r93 v) H := hP
                  have hD : va_D A (wX9 z h a b c9 hh hh1 d0 d1 d2 d3 t9 t91 r9 r91 r92 r93 v) := hD
                  refine lv_icmp_ne (tgt := 106) hx hb dL_isBestSo_93 (by decide) (fun c_22 => ?_) (fun c_22 => ?_)
                  · refine lv_iconst (v := 0) hx hb dL_isBestSo_106 (by decide) ?_
                    refine lv_istore_n (lv' := [(2, .int 0), (3, .int 1), (5, .int 1), (4, .int (nI k12)), (1, .int (f_X9_bestBarn v)), (0, .ref h)]) hx hb dL_isBestSo_107 rfl hl (by decide) rfl (fun ls hl => ?_)
                    refine lv_iinc (v := nI (k12 + 1)) (lv' := [(4, .int (nI (k12 + 1))), (2, .int 0), (3, .int 1), (5, .int 1), (1, .int (f_X9_bestBarn v)), (0, .ref h)]) hx hb dL_isBestSo_108 hl (k := 3) rfl (nI_add k12 1) (by decide) rfl (fun ls hl => ?_)
                    refine lv_goto (tgt := 12) hx hb dL_isBestSo_111 (by decide) ?_
                    exact ih12 (k12 + 1) (0, 1) (by rw [lp_L_isBestSo_12_s, ← hq12]; unfold st_L_isBestSo_12; rw [if_pos c_3, if_pos c_10, if_neg c_18, if_neg c_20, if_neg c_21, if_neg c_22]; try rfl) (by omega) (by omega) _ _ _ hP hD hS (lv_sub hl [0, 2, 1, 4, 5] rfl)
                  · refine lv_iload_n hx hb dL_isBestSo_96 rfl (lv_at hl 4 rfl) ?_
                    refine lv_iload hx hb dL_isBestSo_97 (lv_at hl 2 rfl) ?_
                    refine lv_icmp_gt (tgt := 106) hx hb dL_isBestSo_99 (by decide) (fun c_23 => ?_) (fun c_23 => ?_)
                    · refine lv_iconst (v := 0) hx hb dL_isBestSo_106 (by decide) ?_
                      refine lv_istore_n (lv' := [(2, .int 0), (3, .int 1), (5, .int 1), (4, .int (nI k12)), (1, .int (f_X9_bestBarn v)), (0, .ref h)]) hx hb dL_isBestSo_107 rfl hl (by decide) rfl (fun ls hl => ?_)
                      refine lv_iinc (v := nI (k12 + 1)) (lv' := [(4, .int (nI (k12 + 1))), (2, .int 0), (3, .int 1), (5, .int 1), (1, .int (f_X9_bestBarn v)), (0, .ref h)]) hx hb dL_isBestSo_108 hl (k := 3) rfl (nI_add k12 1) (by decide) rfl (fun ls hl => ?_)
                      refine lv_goto (tgt := 12) hx hb dL_isBestSo_111 (by decide) ?_
                      exact ih12 (k12 + 1) (0, 1) (by rw [lp_L_isBestSo_12_s, ← hq12]; unfold st_L_isBestSo_12; rw [if_pos c_3, if_pos c_10, if_neg c_18, if_neg c_20, if_neg c_21, if_pos c_22, if_pos c_23]; try rfl) (by omega) (by omega) _ _ _ hP hD hS (lv_sub hl [0, 2, 1, 4, 5] rfl)
                    · refine lv_iconst (v := 1) hx hb dL_isBestSo_102 (by decide) ?_
                      refine lv_goto (tgt := 107) hx hb dL_isBestSo_103 (by decide) ?_
                      refine lv_istore_n (lv' := [(2, .int 1), (3, .int 1), (5, .int 1), (4, .int (nI k12)), (1, .int (f_X9_bestBarn v)), (0, .ref h)]) hx hb dL_isBestSo_107 rfl hl (by decide) rfl (fun ls hl => ?_)
                      refine lv_iinc (v := nI (k12 + 1)) (lv' := [(4, .int (nI (k12 + 1))), (2, .int 1), (3, .int 1), (5, .int 1), (1, .int (f_X9_bestBarn v)), (0, .ref h)]) hx hb dL_isBestSo_108 hl (k := 3) rfl (nI_add k12 1) (by decide) rfl (fun ls hl => ?_)
                      refine lv_goto (tgt := 12) hx hb dL_isBestSo_111 (by decide) ?_
                      exact ih12 (k12 + 1) (1, 1) (by rw [lp_L_isBestSo_12_s, ← hq12]; unfold st_L_isBestSo_12; rw [if_pos c_3, if_pos c_10, if_neg c_18, if_neg c_20, if_neg c_21, if_pos c_22, if_neg c_23]; try rfl) (by omega) (by omega) _ _ _ hP hD hS (lv_sub hl [0, 2, 1, 4, 5] rfl)
      · obtain rfl : 5 = k12 := by omega
        refine lv_icmp_ge (tgt := 114) hx hb dL_isBestSo_15 (by decide) (fun c_2 => ?_) (fun c_2 => absurd (nI_le (a := 5) (b := 5) (by omega) (by omega)) c_2)
        have hP : va_P D vwCl (wX9 z h a b c9 hh hh1 d0 d1 d2 d3 t9 t91 r9 r91 r92 r93 v) H := hP
        have hD : va_D A (wX9 z h a b c9 hh hh1 d0 d1 d2 d3 t9 t91 r9 r91 r92 r93 v) := hD
        refine lv_iconst (v := 0) hx hb dL_isBestSo_114 (by decide) ?_
        refine lv_istore (lv' := [(4, .int 0), (3, .int q12.2), (2, .int q12.1), (1, .int (f_X9_bestBarn v)), (0, .ref h)]) hx hb dL_isBestSo_115 hl (by decide) rfl (fun ls hl => ?_)
        have L117 : ∀ (n117 k117 : Nat) (q117 : Int32), q117 = lp_L_isBestSo_117 v q12 q12.1 k117 → k117 ≤ 6 → 6 + 1 ≤ k117 + n117 → ∀ (H : Heap) (locs : List Loc) (ls : Array Slot), va_P D vwCl (wX9 z h a b c9 hh hh1 d0 d1 d2 d3 t9 t91 r9 r91 r92 r93 v) H → va_D A (wX9 z h a b c9 hh hh1 d0 d1 d2 d3 t9 t91 r9 r91 r92 r93 v) → va_S A s.heap H locs → lv_has ls 6 [(4, .int (nI k117)), (3, .int q12.2), (2, .int q117), (1, .int (f_X9_bestBarn v)), (0, .ref h)] → W p l e R s m args below meth c H locs 0 0 Q (F0 m 117 ls []) := by
          intro n117
          induction n117 with
          | zero => intro k117 q117 hq117 h1 h2; exact absurd h2 (by omega)
          | succ n117 ih117 =>
            intro k117 q117 hq117 hk117 hn117 H locs ls hP hD hS hl
            refine lv_iload hx hb dL_isBestSo_117 (lv_at hl 0 rfl) ?_
            refine lv_bipush (v := 6) hx hb dL_isBestSo_119 (by decide) ?_
            rcases Nat.lt_or_ge k117 6 with hlt | hge
            · refine lv_icmp_ge (tgt := 209) hx hb dL_isBestSo_121 (by decide) (fun c_25 => absurd c_25 (nI_ge (a := k117) (b := 6) (by omega) (by omega))) (fun c_25 => ?_)
              refine lv_aload_n hx hb dL_isBestSo_124 rfl (lv_at hl 4 rfl) ?_
              refine lv_iload hx hb dL_isBestSo_125 (lv_at hl 0 rfl) ?_
              refine lv_iconst (v := 0) hx hb dL_isBestSo_127 (by decide) ?_
              refine call_W (w1 := fun _ => wX9 z h a b c9 hh hh1 d0 d1 d2 d3 t9 t91 r9 r91 r92 r93 v) len9 (fun _ => len9) (rV (As := [.int (nI k117), .int 0]) (rest := []) ⟨hx, hb, hml, hown, hts⟩ (c_X9_showOf l D z tM tS h a b c9 hh hh1 d0 d1 d2 d3 t9 t91 r9 r91 r92 r93 v (nI k117) 0 (by assumption) H.size) (cwV 2 hts gL_isBestSo_X9_showOf rfl rfl rfl (by decide +kernel) ⟨Nat.le_trans (by decide) hRf, Nat.le_trans (by decide) hRl⟩) (ev_ok tM tS) (e_go (ev_ok tM tS) hE hD hS hA (List.range 128) (gN len9)) hK hP hD (List.range 128) nd128 (gN len9) (va_recv hK hP (ci := 9) (q0 := 0) rfl rfl) rfl hl.1 rfl (Nat.le_of_ble_eq_true rfl) dL_isBestSo_128 ⟨Nat.zero_le _, Nat.zero_le _⟩) hK hP hD hS hA (fun zr zu H locs hw hP hD hS => ?_)
              have hw : zr = (f_X9_showOf v (nI k117) 0) := hw
              subst hw
              have hP : va_P D vwCl (wX9 z h a b c9 hh hh1 d0 d1 d2 d3 t9 t91 r9 r91 r92 r93 v) H := hP
              have hD : va_D A (wX9 z h a b c9 hh hh1 d0 d1 d2 d3 t9 t91 r9 r91 r92 r93 v) := hD
              refine lv_istore (lv' := [(5, .int (f_X9_showOf v (nI k117) 0)), (4, .int (nI k117)), (3, .int q12.2), (2, .int q117), (1, .int (f_X9_bestBarn v)), (0, .ref h)]) hx hb dL_isBestSo_131 hl (by decide) rfl (fun ls hl => ?_)
              refine lv_iload_n hx hb dL_isBestSo_133 rfl (lv_at hl 3 rfl) ?_
              refine lv_if_eq (tgt := 201) hx hb dL_isBestSo_134 (by decide) (fun c_26 => ?_) (fun c_26 => ?_)
              · refine lv_iconst (v := 0) hx hb dL_isBestSo_201 (by decide) ?_
                refine lv_istore_n (lv' := [(2, .int 0), (5, .int (f_X9_showOf v (nI k117) 0)), (4, .int (nI k117)), (3, .int q12.2), (1, .int (f_X9_bestBarn v)), (0, .ref h)]) hx hb dL_isBestSo_202 rfl hl (by decide) rfl (fun ls hl => ?_)
                refine lv_iinc (v := nI (k117 + 1)) (lv' := [(4, .int (nI (k117 + 1))), (2, .int 0), (5, .int (f_X9_showOf v (nI k117) 0)), (3, .int q12.2), (1, .int (f_X9_bestBarn v)), (0, .ref h)]) hx hb dL_isBestSo_203 hl (k := 2) rfl (nI_add k117 1) (by decide) rfl (fun ls hl => ?_)
                refine lv_goto (tgt := 117) hx hb dL_isBestSo_206 (by decide) ?_
                exact ih117 (k117 + 1) 0 (by rw [lp_L_isBestSo_117_s, ← hq117]; unfold st_L_isBestSo_117; rw [if_pos c_26]; try rfl) (by omega) (by omega) _ _ _ hP hD hS (lv_sub hl [0, 3, 1, 4, 5] rfl)
              · refine lv_iload hx hb dL_isBestSo_137 (lv_at hl 0 rfl) ?_
                refine lv_ldc (v := (-10000005)) hx hb hown (hts (.constant RL 49 (-10000005)) (by decide +kernel)) dL_isBestSo_139 ?_
                refine lv_icmp_ne (tgt := 148) hx hb dL_isBestSo_141 (by decide) (fun c_27 => ?_) (fun c_27 => ?_)
                · refine lv_iconst (v := 0) hx hb dL_isBestSo_148 (by decide) ?_
                  refine lv_iload hx hb dL_isBestSo_149 (lv_at hl 1 rfl) ?_
                  refine lv_aload_n hx hb dL_isBestSo_151 rfl (lv_at hl 5 rfl) ?_
                  refine lv_bipush (v := 9) hx hb dL_isBestSo_152 (by decide) ?_
                  refine call_W (w1 := fun _ => wX9 z h a b c9 hh hh1 d0 d1 d2 d3 t9 t91 r9 r91 r92 r93 v) len9 (fun _ => len9) (rV (As := [.int 9]) (rest := [.int (nI k117), .int 0]) ⟨hx, hb, hml, hown, hts⟩ (c_X9_count l D z tM tS h a b c9 hh hh1 d0 d1 d2 d3 t9 t91 r9 r91 r92 r93 v 9 H.size) (cwV 1 hts gL_isBestSo_X9_count rfl rfl rfl (by decide +kernel) ⟨Nat.le_trans (by decide) hRf, Nat.le_trans (by decide) hRl⟩) (ev_ok tM tS) (e_go (ev_ok tM tS) hE hD hS hA (List.range 128) (gN len9)) hK hP hD (List.range 128) nd128 (gN len9) (va_recv hK hP (ci := 9) (q0 := 0) rfl rfl) rfl hl.1 rfl (Nat.le_of_ble_eq_true rfl) dL_isBestSo_154 ⟨Nat.zero_le _, Nat.zero_le _⟩) hK hP hD hS hA (fun zr zu H locs hw hP hD hS => ?_)
                  have hw : zr = (f_X9_count v 9) := hw
                  subst hw
                  have hP : va_P D vwCl (wX9 z h a b c9 hh hh1 d0 d1 d2 d3 t9 t91 r9 r91 r92 r93 v) H := hP
                  have hD : va_D A (wX9 z h a b c9 hh hh1 d0 d1 d2 d3 t9 t91 r9 r91 r92 r93 v) := hD
                  refine lv_icmp_lt (tgt := 164) hx hb dL_isBestSo_157 (by decide) (fun c_28 => ?_) (fun c_28 => ?_)
                  · refine lv_iconst (v := 0) hx hb dL_isBestSo_164 (by decide) ?_
                    refine lv_icmp_ne (tgt := 201) hx hb dL_isBestSo_165 (by decide) (fun c_29 => absurd c_29 (by decide)) (fun c_29 => ?_)
                    refine lv_iload hx hb dL_isBestSo_168 (lv_at hl 1 rfl) ?_
                    refine lv_if_eq (tgt := 187) hx hb dL_isBestSo_170 (by decide) (fun c_30 => ?_) (fun c_30 => ?_)
                    · refine lv_iload hx hb dL_isBestSo_187 (lv_at hl 0 rfl) ?_
                      refine lv_aload_n hx hb dL_isBestSo_189 rfl (lv_at hl 5 rfl) ?_
                      refine lv_iconst (v := 0) hx hb dL_isBestSo_190 (by decide) ?_
                      refine call_W (w1 := fun _ => wX9 z h a b c9 hh hh1 d0 d1 d2 d3 t9 t91 r9 r91 r92 r93 v) len9 (fun _ => len9) (rV (As := [.int 0]) (rest := [.int (f_X9_showOf v (nI k117) 0)]) ⟨hx, hb, hml, hown, hts⟩ (c_X9_count l D z tM tS h a b c9 hh hh1 d0 d1 d2 d3 t9 t91 r9 r91 r92 r93 v 0 H.size) (cwV 1 hts gL_isBestSo_X9_count rfl rfl rfl (by decide +kernel) ⟨Nat.le_trans (by decide) hRf, Nat.le_trans (by decide) hRl⟩) (ev_ok tM tS) (e_go (ev_ok tM tS) hE hD hS hA (List.range 128) (gN len9)) hK hP hD (List.range 128) nd128 (gN len9) (va_recv hK hP (ci := 9) (q0 := 0) rfl rfl) rfl hl.1 rfl (Nat.le_of_ble_eq_true rfl) dL_isBestSo_191 ⟨Nat.zero_le _, Nat.zero_le _⟩) hK hP hD hS hA (fun zr zu H locs hw hP hD hS => ?_)
                      have hw : zr = (f_X9_count v 0) := hw
                      subst hw
                      have hP : va_P D vwCl (wX9 z h a b c9 hh hh1 d0 d1 d2 d3 t9 t91 r9 r91 r92 r93 v) H := hP
                      have hD : va_D A (wX9 z h a b c9 hh hh1 d0 d1 d2 d3 t9 t91 r9 r91 r92 r93 v) := hD
                      refine lv_icmp_gt (tgt := 201) hx hb dL_isBestSo_194 (by decide) (fun c_31 => ?_) (fun c_31 => ?_)
                      · refine lv_iconst (v := 0) hx hb dL_isBestSo_201 (by decide) ?_
                        refine lv_istore_n (lv' := [(2, .int 0), (5, .int (f_X9_showOf v (nI k117) 0)), (4, .int (nI k117)), (3, .int q12.2), (1, .int (f_X9_bestBarn v)), (0, .ref h)]) hx hb dL_isBestSo_202 rfl hl (by decide) rfl (fun ls hl => ?_)
                        refine lv_iinc (v := nI (k117 + 1)) (lv' := [(4, .int (nI (k117 + 1))), (2, .int 0), (5, .int (f_X9_showOf v (nI k117) 0)), (3, .int q12.2), (1, .int (f_X9_bestBarn v)), (0, .ref h)]) hx hb dL_isBestSo_203 hl (k := 2) rfl (nI_add k117 1) (by decide) rfl (fun ls hl => ?_)
                        refine lv_goto (tgt := 117) hx hb dL_isBestSo_206 (by decide) ?_
                        exact ih117 (k117 + 1) 0 (by rw [lp_L_isBestSo_117_s, ← hq117]; unfold st_L_isBestSo_117; rw [if_neg c_26, if_neg c_27, if_pos c_28, if_pos c_30, if_pos c_31]; try rfl) (by omega) (by omega) _ _ _ hP hD hS (lv_sub hl [0, 3, 1, 4, 5] rfl)
                      · refine lv_iconst (v := 1) hx hb dL_isBestSo_197 (by decide) ?_
                        refine lv_goto (tgt := 202) hx hb dL_isBestSo_198 (by decide) ?_
                        refine lv_istore_n (lv' := [(2, .int 1), (5, .int (f_X9_showOf v (nI k117) 0)), (4, .int (nI k117)), (3, .int q12.2), (1, .int (f_X9_bestBarn v)), (0, .ref h)]) hx hb dL_isBestSo_202 rfl hl (by decide) rfl (fun ls hl => ?_)
                        refine lv_iinc (v := nI (k117 + 1)) (lv' := [(4, .int (nI (k117 + 1))), (2, .int 1), (5, .int (f_X9_showOf v (nI k117) 0)), (3, .int q12.2), (1, .int (f_X9_bestBarn v)), (0, .ref h)]) hx hb dL_isBestSo_203 hl (k := 2) rfl (nI_add k117 1) (by decide) rfl (fun ls hl => ?_)
                        refine lv_goto (tgt := 117) hx hb dL_isBestSo_206 (by decide) ?_
                        exact ih117 (k117 + 1) 1 (by rw [lp_L_isBestSo_117_s, ← hq117]; unfold st_L_isBestSo_117; rw [if_neg c_26, if_neg c_27, if_pos c_28, if_pos c_30, if_neg c_31]; try rfl) (by omega) (by omega) _ _ _ hP hD hS (lv_sub hl [0, 3, 1, 4, 5] rfl)
                    · refine lv_iload hx hb dL_isBestSo_173 (lv_at hl 0 rfl) ?_
                      refine lv_aload_n hx hb dL_isBestSo_175 rfl (lv_at hl 5 rfl) ?_
                      refine lv_iload hx hb dL_isBestSo_176 (lv_at hl 1 rfl) ?_
                      refine lv_iconst (v := 1) hx hb dL_isBestSo_178 (by decide) ?_
                      refine lv_isub hx hb dL_isBestSo_179 ?_
                      refine lv_iconst (v := 0) hx hb dL_isBestSo_180 (by decide) ?_
                      refine call_W (w1 := fun _ => wX9 z h a b c9 hh hh1 d0 d1 d2 d3 t9 t91 r9 r91 r92 r93 v) len9 (fun _ => len9) (rV (As := [.int ((nI k117) - 1), .int 0]) (rest := [.int (f_X9_showOf v (nI k117) 0)]) ⟨hx, hb, hml, hown, hts⟩ (c_X9_showOf l D z tM tS h a b c9 hh hh1 d0 d1 d2 d3 t9 t91 r9 r91 r92 r93 v ((nI k117) - 1) 0 (by assumption) H.size) (cwV 2 hts gL_isBestSo_X9_showOf rfl rfl rfl (by decide +kernel) ⟨Nat.le_trans (by decide) hRf, Nat.le_trans (by decide) hRl⟩) (ev_ok tM tS) (e_go (ev_ok tM tS) hE hD hS hA (List.range 128) (gN len9)) hK hP hD (List.range 128) nd128 (gN len9) (va_recv hK hP (ci := 9) (q0 := 0) rfl rfl) rfl hl.1 rfl (Nat.le_of_ble_eq_true rfl) dL_isBestSo_181 ⟨Nat.zero_le _, Nat.zero_le _⟩) hK hP hD hS hA (fun zr zu H locs hw hP hD hS => ?_)
                      have hw : zr = (f_X9_showOf v ((nI k117) - 1) 0) := hw
                      subst hw
                      have hP : va_P D vwCl (wX9 z h a b c9 hh hh1 d0 d1 d2 d3 t9 t91 r9 r91 r92 r93 v) H := hP
                      have hD : va_D A (wX9 z h a b c9 hh hh1 d0 d1 d2 d3 t9 t91 r9 r91 r92 r93 v) := hD
                      refine lv_icmp_gt (tgt := 201) hx hb dL_isBestSo_184 (by decide) (fun c_32 => ?_) (fun c_32 => ?_)
                      · refine lv_iconst (v := 0) hx hb dL_isBestSo_201 (by decide) ?_
                        refine lv_istore_n (lv' := [(2, .int 0), (5, .int (f_X9_showOf v (nI k117) 0)), (4, .int (nI k117)), (3, .int q12.2), (1, .int (f_X9_bestBarn v)), (0, .ref h)]) hx hb dL_isBestSo_202 rfl hl (by decide) rfl (fun ls hl => ?_)
                        refine lv_iinc (v := nI (k117 + 1)) (lv' := [(4, .int (nI (k117 + 1))), (2, .int 0), (5, .int (f_X9_showOf v (nI k117) 0)), (3, .int q12.2), (1, .int (f_X9_bestBarn v)), (0, .ref h)]) hx hb dL_isBestSo_203 hl (k := 2) rfl (nI_add k117 1) (by decide) rfl (fun ls hl => ?_)
                        refine lv_goto (tgt := 117) hx hb dL_isBestSo_206 (by decide) ?_
                        exact ih117 (k117 + 1) 0 (by rw [lp_L_isBestSo_117_s, ← hq117]; unfold st_L_isBestSo_117; rw [if_neg c_26, if_neg c_27, if_pos c_28, if_neg c_30, if_pos c_32]; try rfl) (by omega) (by omega) _ _ _ hP hD hS (lv_sub hl [0, 3, 1, 4, 5] rfl)
                      · refine lv_iload hx hb dL_isBestSo_187 (lv_at hl 0 rfl) ?_
                        refine lv_aload_n hx hb dL_isBestSo_189 rfl (lv_at hl 5 rfl) ?_
                        refine lv_iconst (v := 0) hx hb dL_isBestSo_190 (by decide) ?_
                        refine call_W (w1 := fun _ => wX9 z h a b c9 hh hh1 d0 d1 d2 d3 t9 t91 r9 r91 r92 r93 v) len9 (fun _ => len9) (rV (As := [.int 0]) (rest := [.int (f_X9_showOf v (nI k117) 0)]) ⟨hx, hb, hml, hown, hts⟩ (c_X9_count l D z tM tS h a b c9 hh hh1 d0 d1 d2 d3 t9 t91 r9 r91 r92 r93 v 0 H.size) (cwV 1 hts gL_isBestSo_X9_count rfl rfl rfl (by decide +kernel) ⟨Nat.le_trans (by decide) hRf, Nat.le_trans (by decide) hRl⟩) (ev_ok tM tS) (e_go (ev_ok tM tS) hE hD hS hA (List.range 128) (gN len9)) hK hP hD (List.range 128) nd128 (gN len9) (va_recv hK hP (ci := 9) (q0 := 0) rfl rfl) rfl hl.1 rfl (Nat.le_of_ble_eq_true rfl) dL_isBestSo_191 ⟨Nat.zero_le _, Nat.zero_le _⟩) hK hP hD hS hA (fun zr zu H locs hw hP hD hS => ?_)
                        have hw : zr = (f_X9_count v 0) := hw
                        subst hw
                        have hP : va_P D vwCl (wX9 z h a b c9 hh hh1 d0 d1 d2 d3 t9 t91 r9 r91 r92 r93 v) H := hP
                        have hD : va_D A (wX9 z h a b c9 hh hh1 d0 d1 d2 d3 t9 t91 r9 r91 r92 r93 v) := hD
                        refine lv_icmp_gt (tgt := 201) hx hb dL_isBestSo_194 (by decide) (fun c_33 => ?_) (fun c_33 => ?_)
                        · refine lv_iconst (v := 0) hx hb dL_isBestSo_201 (by decide) ?_
                          refine lv_istore_n (lv' := [(2, .int 0), (5, .int (f_X9_showOf v (nI k117) 0)), (4, .int (nI k117)), (3, .int q12.2), (1, .int (f_X9_bestBarn v)), (0, .ref h)]) hx hb dL_isBestSo_202 rfl hl (by decide) rfl (fun ls hl => ?_)
                          refine lv_iinc (v := nI (k117 + 1)) (lv' := [(4, .int (nI (k117 + 1))), (2, .int 0), (5, .int (f_X9_showOf v (nI k117) 0)), (3, .int q12.2), (1, .int (f_X9_bestBarn v)), (0, .ref h)]) hx hb dL_isBestSo_203 hl (k := 2) rfl (nI_add k117 1) (by decide) rfl (fun ls hl => ?_)
                          refine lv_goto (tgt := 117) hx hb dL_isBestSo_206 (by decide) ?_
                          exact ih117 (k117 + 1) 0 (by rw [lp_L_isBestSo_117_s, ← hq117]; unfold st_L_isBestSo_117; rw [if_neg c_26, if_neg c_27, if_pos c_28, if_neg c_30, if_neg c_32, if_pos c_33]; try rfl) (by omega) (by omega) _ _ _ hP hD hS (lv_sub hl [0, 3, 1, 4, 5] rfl)
                        · refine lv_iconst (v := 1) hx hb dL_isBestSo_197 (by decide) ?_
                          refine lv_goto (tgt := 202) hx hb dL_isBestSo_198 (by decide) ?_
                          refine lv_istore_n (lv' := [(2, .int 1), (5, .int (f_X9_showOf v (nI k117) 0)), (4, .int (nI k117)), (3, .int q12.2), (1, .int (f_X9_bestBarn v)), (0, .ref h)]) hx hb dL_isBestSo_202 rfl hl (by decide) rfl (fun ls hl => ?_)
                          refine lv_iinc (v := nI (k117 + 1)) (lv' := [(4, .int (nI (k117 + 1))), (2, .int 1), (5, .int (f_X9_showOf v (nI k117) 0)), (3, .int q12.2), (1, .int (f_X9_bestBarn v)), (0, .ref h)]) hx hb dL_isBestSo_203 hl (k := 2) rfl (nI_add k117 1) (by decide) rfl (fun ls hl => ?_)
                          refine lv_goto (tgt := 117) hx hb dL_isBestSo_206 (by decide) ?_
                          exact ih117 (k117 + 1) 1 (by rw [lp_L_isBestSo_117_s, ← hq117]; unfold st_L_isBestSo_117; rw [if_neg c_26, if_neg c_27, if_pos c_28, if_neg c_30, if_neg c_32, if_neg c_33]; try rfl) (by omega) (by omega) _ _ _ hP hD hS (lv_sub hl [0, 3, 1, 4, 5] rfl)
                  · refine lv_iconst (v := 1) hx hb dL_isBestSo_160 (by decide) ?_
                    refine lv_goto (tgt := 165) hx hb dL_isBestSo_161 (by decide) ?_
                    refine lv_icmp_ne (tgt := 201) hx hb dL_isBestSo_165 (by decide) (fun c_34 => ?_) (fun c_34 => absurd c_34 (by decide))
                    refine lv_iconst (v := 0) hx hb dL_isBestSo_201 (by decide) ?_
                    refine lv_istore_n (lv' := [(2, .int 0), (5, .int (f_X9_showOf v (nI k117) 0)), (4, .int (nI k117)), (3, .int q12.2), (1, .int (f_X9_bestBarn v)), (0, .ref h)]) hx hb dL_isBestSo_202 rfl hl (by decide) rfl (fun ls hl => ?_)
                    refine lv_iinc (v := nI (k117 + 1)) (lv' := [(4, .int (nI (k117 + 1))), (2, .int 0), (5, .int (f_X9_showOf v (nI k117) 0)), (3, .int q12.2), (1, .int (f_X9_bestBarn v)), (0, .ref h)]) hx hb dL_isBestSo_203 hl (k := 2) rfl (nI_add k117 1) (by decide) rfl (fun ls hl => ?_)
                    refine lv_goto (tgt := 117) hx hb dL_isBestSo_206 (by decide) ?_
                    exact ih117 (k117 + 1) 0 (by rw [lp_L_isBestSo_117_s, ← hq117]; unfold st_L_isBestSo_117; rw [if_neg c_26, if_neg c_27, if_neg c_28]; try rfl) (by omega) (by omega) _ _ _ hP hD hS (lv_sub hl [0, 3, 1, 4, 5] rfl)
                · refine lv_iconst (v := 1) hx hb dL_isBestSo_144 (by decide) ?_
                  refine lv_goto (tgt := 149) hx hb dL_isBestSo_145 (by decide) ?_
                  refine lv_iload hx hb dL_isBestSo_149 (lv_at hl 1 rfl) ?_
                  refine lv_aload_n hx hb dL_isBestSo_151 rfl (lv_at hl 5 rfl) ?_
                  refine lv_bipush (v := 9) hx hb dL_isBestSo_152 (by decide) ?_
                  refine call_W (w1 := fun _ => wX9 z h a b c9 hh hh1 d0 d1 d2 d3 t9 t91 r9 r91 r92 r93 v) len9 (fun _ => len9) (rV (As := [.int 9]) (rest := [.int (nI k117), .int 1]) ⟨hx, hb, hml, hown, hts⟩ (c_X9_count l D z tM tS h a b c9 hh hh1 d0 d1 d2 d3 t9 t91 r9 r91 r92 r93 v 9 H.size) (cwV 1 hts gL_isBestSo_X9_count rfl rfl rfl (by decide +kernel) ⟨Nat.le_trans (by decide) hRf, Nat.le_trans (by decide) hRl⟩) (ev_ok tM tS) (e_go (ev_ok tM tS) hE hD hS hA (List.range 128) (gN len9)) hK hP hD (List.range 128) nd128 (gN len9) (va_recv hK hP (ci := 9) (q0 := 0) rfl rfl) rfl hl.1 rfl (Nat.le_of_ble_eq_true rfl) dL_isBestSo_154 ⟨Nat.zero_le _, Nat.zero_le _⟩) hK hP hD hS hA (fun zr zu H locs hw hP hD hS => ?_)
                  have hw : zr = (f_X9_count v 9) := hw
                  subst hw
                  have hP : va_P D vwCl (wX9 z h a b c9 hh hh1 d0 d1 d2 d3 t9 t91 r9 r91 r92 r93 v) H := hP
                  have hD : va_D A (wX9 z h a b c9 hh hh1 d0 d1 d2 d3 t9 t91 r9 r91 r92 r93 v) := hD
                  refine lv_icmp_lt (tgt := 164) hx hb dL_isBestSo_157 (by decide) (fun c_35 => ?_) (fun c_35 => ?_)
                  · refine lv_iconst (v := 0) hx hb dL_isBestSo_164 (by decide) ?_
                    refine lv_icmp_ne (tgt := 201) hx hb dL_isBestSo_165 (by decide) (fun c_36 => ?_) (fun c_36 => absurd c_36 (by decide))
                    refine lv_iconst (v := 0) hx hb dL_isBestSo_201 (by decide) ?_
                    refine lv_istore_n (lv' := [(2, .int 0), (5, .int (f_X9_showOf v (nI k117) 0)), (4, .int (nI k117)), (3, .int q12.2), (1, .int (f_X9_bestBarn v)), (0, .ref h)]) hx hb dL_isBestSo_202 rfl hl (by decide) rfl (fun ls hl => ?_)
                    refine lv_iinc (v := nI (k117 + 1)) (lv' := [(4, .int (nI (k117 + 1))), (2, .int 0), (5, .int (f_X9_showOf v (nI k117) 0)), (3, .int q12.2), (1, .int (f_X9_bestBarn v)), (0, .ref h)]) hx hb dL_isBestSo_203 hl (k := 2) rfl (nI_add k117 1) (by decide) rfl (fun ls hl => ?_)
                    refine lv_goto (tgt := 117) hx hb dL_isBestSo_206 (by decide) ?_
                    exact ih117 (k117 + 1) 0 (by rw [lp_L_isBestSo_117_s, ← hq117]; unfold st_L_isBestSo_117; rw [if_neg c_26, if_pos c_27, if_pos c_35]; try rfl) (by omega) (by omega) _ _ _ hP hD hS (lv_sub hl [0, 3, 1, 4, 5] rfl)
                  · refine lv_iconst (v := 1) hx hb dL_isBestSo_160 (by decide) ?_
                    refine lv_goto (tgt := 165) hx hb dL_isBestSo_161 (by decide) ?_
                    refine lv_icmp_ne (tgt := 201) hx hb dL_isBestSo_165 (by decide) (fun c_37 => absurd c_37 (by decide)) (fun c_37 => ?_)
                    refine lv_iload hx hb dL_isBestSo_168 (lv_at hl 1 rfl) ?_
                    refine lv_if_eq (tgt := 187) hx hb dL_isBestSo_170 (by decide) (fun c_38 => ?_) (fun c_38 => ?_)
                    · refine lv_iload hx hb dL_isBestSo_187 (lv_at hl 0 rfl) ?_
                      refine lv_aload_n hx hb dL_isBestSo_189 rfl (lv_at hl 5 rfl) ?_
                      refine lv_iconst (v := 0) hx hb dL_isBestSo_190 (by decide) ?_
                      refine call_W (w1 := fun _ => wX9 z h a b c9 hh hh1 d0 d1 d2 d3 t9 t91 r9 r91 r92 r93 v) len9 (fun _ => len9) (rV (As := [.int 0]) (rest := [.int (f_X9_showOf v (nI k117) 0)]) ⟨hx, hb, hml, hown, hts⟩ (c_X9_count l D z tM tS h a b c9 hh hh1 d0 d1 d2 d3 t9 t91 r9 r91 r92 r93 v 0 H.size) (cwV 1 hts gL_isBestSo_X9_count rfl rfl rfl (by decide +kernel) ⟨Nat.le_trans (by decide) hRf, Nat.le_trans (by decide) hRl⟩) (ev_ok tM tS) (e_go (ev_ok tM tS) hE hD hS hA (List.range 128) (gN len9)) hK hP hD (List.range 128) nd128 (gN len9) (va_recv hK hP (ci := 9) (q0 := 0) rfl rfl) rfl hl.1 rfl (Nat.le_of_ble_eq_true rfl) dL_isBestSo_191 ⟨Nat.zero_le _, Nat.zero_le _⟩) hK hP hD hS hA (fun zr zu H locs hw hP hD hS => ?_)
                      have hw : zr = (f_X9_count v 0) := hw
                      subst hw
                      have hP : va_P D vwCl (wX9 z h a b c9 hh hh1 d0 d1 d2 d3 t9 t91 r9 r91 r92 r93 v) H := hP
                      have hD : va_D A (wX9 z h a b c9 hh hh1 d0 d1 d2 d3 t9 t91 r9 r91 r92 r93 v) := hD
                      refine lv_icmp_gt (tgt := 201) hx hb dL_isBestSo_194 (by decide) (fun c_39 => ?_) (fun c_39 => ?_)
                      · refine lv_iconst (v := 0) hx hb dL_isBestSo_201 (by decide) ?_
                        refine lv_istore_n (lv' := [(2, .int 0), (5, .int (f_X9_showOf v (nI k117) 0)), (4, .int (nI k117)), (3, .int q12.2), (1, .int (f_X9_bestBarn v)), (0, .ref h)]) hx hb dL_isBestSo_202 rfl hl (by decide) rfl (fun ls hl => ?_)
                        refine lv_iinc (v := nI (k117 + 1)) (lv' := [(4, .int (nI (k117 + 1))), (2, .int 0), (5, .int (f_X9_showOf v (nI k117) 0)), (3, .int q12.2), (1, .int (f_X9_bestBarn v)), (0, .ref h)]) hx hb dL_isBestSo_203 hl (k := 2) rfl (nI_add k117 1) (by decide) rfl (fun ls hl => ?_)
                        refine lv_goto (tgt := 117) hx hb dL_isBestSo_206 (by decide) ?_
                        exact ih117 (k117 + 1) 0 (by rw [lp_L_isBestSo_117_s, ← hq117]; unfold st_L_isBestSo_117; rw [if_neg c_26, if_pos c_27, if_neg c_35, if_pos c_38, if_pos c_39]; try rfl) (by omega) (by omega) _ _ _ hP hD hS (lv_sub hl [0, 3, 1, 4, 5] rfl)
                      · refine lv_iconst (v := 1) hx hb dL_isBestSo_197 (by decide) ?_
                        refine lv_goto (tgt := 202) hx hb dL_isBestSo_198 (by decide) ?_
                        refine lv_istore_n (lv' := [(2, .int 1), (5, .int (f_X9_showOf v (nI k117) 0)), (4, .int (nI k117)), (3, .int q12.2), (1, .int (f_X9_bestBarn v)), (0, .ref h)]) hx hb dL_isBestSo_202 rfl hl (by decide) rfl (fun ls hl => ?_)
                        refine lv_iinc (v := nI (k117 + 1)) (lv' := [(4, .int (nI (k117 + 1))), (2, .int 1), (5, .int (f_X9_showOf v (nI k117) 0)), (3, .int q12.2), (1, .int (f_X9_bestBarn v)), (0, .ref h)]) hx hb dL_isBestSo_203 hl (k := 2) rfl (nI_add k117 1) (by decide) rfl (fun ls hl => ?_)
                        refine lv_goto (tgt := 117) hx hb dL_isBestSo_206 (by decide) ?_
                        exact ih117 (k117 + 1) 1 (by rw [lp_L_isBestSo_117_s, ← hq117]; unfold st_L_isBestSo_117; rw [if_neg c_26, if_pos c_27, if_neg c_35, if_pos c_38, if_neg c_39]; try rfl) (by omega) (by omega) _ _ _ hP hD hS (lv_sub hl [0, 3, 1, 4, 5] rfl)
                    · refine lv_iload hx hb dL_isBestSo_173 (lv_at hl 0 rfl) ?_
                      refine lv_aload_n hx hb dL_isBestSo_175 rfl (lv_at hl 5 rfl) ?_
                      refine lv_iload hx hb dL_isBestSo_176 (lv_at hl 1 rfl) ?_
                      refine lv_iconst (v := 1) hx hb dL_isBestSo_178 (by decide) ?_
                      refine lv_isub hx hb dL_isBestSo_179 ?_
                      refine lv_iconst (v := 0) hx hb dL_isBestSo_180 (by decide) ?_
                      refine call_W (w1 := fun _ => wX9 z h a b c9 hh hh1 d0 d1 d2 d3 t9 t91 r9 r91 r92 r93 v) len9 (fun _ => len9) (rV (As := [.int ((nI k117) - 1), .int 0]) (rest := [.int (f_X9_showOf v (nI k117) 0)]) ⟨hx, hb, hml, hown, hts⟩ (c_X9_showOf l D z tM tS h a b c9 hh hh1 d0 d1 d2 d3 t9 t91 r9 r91 r92 r93 v ((nI k117) - 1) 0 (by assumption) H.size) (cwV 2 hts gL_isBestSo_X9_showOf rfl rfl rfl (by decide +kernel) ⟨Nat.le_trans (by decide) hRf, Nat.le_trans (by decide) hRl⟩) (ev_ok tM tS) (e_go (ev_ok tM tS) hE hD hS hA (List.range 128) (gN len9)) hK hP hD (List.range 128) nd128 (gN len9) (va_recv hK hP (ci := 9) (q0 := 0) rfl rfl) rfl hl.1 rfl (Nat.le_of_ble_eq_true rfl) dL_isBestSo_181 ⟨Nat.zero_le _, Nat.zero_le _⟩) hK hP hD hS hA (fun zr zu H locs hw hP hD hS => ?_)
                      have hw : zr = (f_X9_showOf v ((nI k117) - 1) 0) := hw
                      subst hw
                      have hP : va_P D vwCl (wX9 z h a b c9 hh hh1 d0 d1 d2 d3 t9 t91 r9 r91 r92 r93 v) H := hP
                      have hD : va_D A (wX9 z h a b c9 hh hh1 d0 d1 d2 d3 t9 t91 r9 r91 r92 r93 v) := hD
                      refine lv_icmp_gt (tgt := 201) hx hb dL_isBestSo_184 (by decide) (fun c_40 => ?_) (fun c_40 => ?_)
                      · refine lv_iconst (v := 0) hx hb dL_isBestSo_201 (by decide) ?_
                        refine lv_istore_n (lv' := [(2, .int 0), (5, .int (f_X9_showOf v (nI k117) 0)), (4, .int (nI k117)), (3, .int q12.2), (1, .int (f_X9_bestBarn v)), (0, .ref h)]) hx hb dL_isBestSo_202 rfl hl (by decide) rfl (fun ls hl => ?_)
                        refine lv_iinc (v := nI (k117 + 1)) (lv' := [(4, .int (nI (k117 + 1))), (2, .int 0), (5, .int (f_X9_showOf v (nI k117) 0)), (3, .int q12.2), (1, .int (f_X9_bestBarn v)), (0, .ref h)]) hx hb dL_isBestSo_203 hl (k := 2) rfl (nI_add k117 1) (by decide) rfl (fun ls hl => ?_)
                        refine lv_goto (tgt := 117) hx hb dL_isBestSo_206 (by decide) ?_
                        exact ih117 (k117 + 1) 0 (by rw [lp_L_isBestSo_117_s, ← hq117]; unfold st_L_isBestSo_117; rw [if_neg c_26, if_pos c_27, if_neg c_35, if_neg c_38, if_pos c_40]; try rfl) (by omega) (by omega) _ _ _ hP hD hS (lv_sub hl [0, 3, 1, 4, 5] rfl)
                      · refine lv_iload hx hb dL_isBestSo_187 (lv_at hl 0 rfl) ?_
                        refine lv_aload_n hx hb dL_isBestSo_189 rfl (lv_at hl 5 rfl) ?_
                        refine lv_iconst (v := 0) hx hb dL_isBestSo_190 (by decide) ?_
                        refine call_W (w1 := fun _ => wX9 z h a b c9 hh hh1 d0 d1 d2 d3 t9 t91 r9 r91 r92 r93 v) len9 (fun _ => len9) (rV (As := [.int 0]) (rest := [.int (f_X9_showOf v (nI k117) 0)]) ⟨hx, hb, hml, hown, hts⟩ (c_X9_count l D z tM tS h a b c9 hh hh1 d0 d1 d2 d3 t9 t91 r9 r91 r92 r93 v 0 H.size) (cwV 1 hts gL_isBestSo_X9_count rfl rfl rfl (by decide +kernel) ⟨Nat.le_trans (by decide) hRf, Nat.le_trans (by decide) hRl⟩) (ev_ok tM tS) (e_go (ev_ok tM tS) hE hD hS hA (List.range 128) (gN len9)) hK hP hD (List.range 128) nd128 (gN len9) (va_recv hK hP (ci := 9) (q0 := 0) rfl rfl) rfl hl.1 rfl (Nat.le_of_ble_eq_true rfl) dL_isBestSo_191 ⟨Nat.zero_le _, Nat.zero_le _⟩) hK hP hD hS hA (fun zr zu H locs hw hP hD hS => ?_)
                        have hw : zr = (f_X9_count v 0) := hw
                        subst hw
                        have hP : va_P D vwCl (wX9 z h a b c9 hh hh1 d0 d1 d2 d3 t9 t91 r9 r91 r92 r93 v) H := hP
                        have hD : va_D A (wX9 z h a b c9 hh hh1 d0 d1 d2 d3 t9 t91 r9 r91 r92 r93 v) := hD
                        refine lv_icmp_gt (tgt := 201) hx hb dL_isBestSo_194 (by decide) (fun c_41 => ?_) (fun c_41 => ?_)
                        · refine lv_iconst (v := 0) hx hb dL_isBestSo_201 (by decide) ?_
                          refine lv_istore_n (lv' := [(2, .int 0), (5, .int (f_X9_showOf v (nI k117) 0)), (4, .int (nI k117)), (3, .int q12.2), (1, .int (f_X9_bestBarn v)), (0, .ref h)]) hx hb dL_isBestSo_202 rfl hl (by decide) rfl (fun ls hl => ?_)
                          refine lv_iinc (v := nI (k117 + 1)) (lv' := [(4, .int (nI (k117 + 1))), (2, .int 0), (5, .int (f_X9_showOf v (nI k117) 0)), (3, .int q12.2), (1, .int (f_X9_bestBarn v)), (0, .ref h)]) hx hb dL_isBestSo_203 hl (k := 2) rfl (nI_add k117 1) (by decide) rfl (fun ls hl => ?_)
                          refine lv_goto (tgt := 117) hx hb dL_isBestSo_206 (by decide) ?_
                          exact ih117 (k117 + 1) 0 (by rw [lp_L_isBestSo_117_s, ← hq117]; unfold st_L_isBestSo_117; rw [if_neg c_26, if_pos c_27, if_neg c_35, if_neg c_38, if_neg c_40, if_pos c_41]; try rfl) (by omega) (by omega) _ _ _ hP hD hS (lv_sub hl [0, 3, 1, 4, 5] rfl)
                        · refine lv_iconst (v := 1) hx hb dL_isBestSo_197 (by decide) ?_
                          refine lv_goto (tgt := 202) hx hb dL_isBestSo_198 (by decide) ?_
                          refine lv_istore_n (lv' := [(2, .int 1), (5, .int (f_X9_showOf v (nI k117) 0)), (4, .int (nI k117)), (3, .int q12.2), (1, .int (f_X9_bestBarn v)), (0, .ref h)]) hx hb dL_isBestSo_202 rfl hl (by decide) rfl (fun ls hl => ?_)
                          refine lv_iinc (v := nI (k117 + 1)) (lv' := [(4, .int (nI (k117 + 1))), (2, .int 1), (5, .int (f_X9_showOf v (nI k117) 0)), (3, .int q12.2), (1, .int (f_X9_bestBarn v)), (0, .ref h)]) hx hb dL_isBestSo_203 hl (k := 2) rfl (nI_add k117 1) (by decide) rfl (fun ls hl => ?_)
                          refine lv_goto (tgt := 117) hx hb dL_isBestSo_206 (by decide) ?_
                          exact ih117 (k117 + 1) 1 (by rw [lp_L_isBestSo_117_s, ← hq117]; unfold st_L_isBestSo_117; rw [if_neg c_26, if_pos c_27, if_neg c_35, if_neg c_38, if_neg c_40, if_neg c_41]; try rfl) (by omega) (by omega) _ _ _ hP hD hS (lv_sub hl [0, 3, 1, 4, 5] rfl)
            · obtain rfl : 6 = k117 := by omega
              refine lv_icmp_ge (tgt := 209) hx hb dL_isBestSo_121 (by decide) (fun c_25 => ?_) (fun c_25 => absurd (nI_le (a := 6) (b := 6) (by omega) (by omega)) c_25)
              have hP : va_P D vwCl (wX9 z h a b c9 hh hh1 d0 d1 d2 d3 t9 t91 r9 r91 r92 r93 v) H := hP
              have hD : va_D A (wX9 z h a b c9 hh hh1 d0 d1 d2 d3 t9 t91 r9 r91 r92 r93 v) := hD
              refine lv_iload_n hx hb dL_isBestSo_209 rfl (lv_at hl 2 rfl) ?_
              refine lv_if_eq (tgt := 252) hx hb dL_isBestSo_210 (by decide) (fun c_42 => ?_) (fun c_42 => ?_)
              · refine lv_iconst (v := 0) hx hb dL_isBestSo_252 (by decide) ?_
                subst hQ
                exact ret_z () hx hb hr rfl hK hP hD hS rfl ⟨(by unfold f_L_isBestSo; rw [← hq12]; unfold f_L_isBestSo_12_x; rw [← hq117]; unfold f_L_isBestSo_117_x; rw [if_pos c_42]; try rfl), (Or.inl rfl)⟩ dL_isBestSo_253 hlocks
              · refine lv_iload_n hx hb dL_isBestSo_213 rfl (lv_at hl 3 rfl) ?_
                refine lv_ldc (v := (-10000005)) hx hb hown (hts (.constant RL 49 (-10000005)) (by decide +kernel)) dL_isBestSo_214 ?_
                refine lv_icmp_ne (tgt := 223) hx hb dL_isBestSo_216 (by decide) (fun c_43 => ?_) (fun c_43 => ?_)
                · refine lv_iconst (v := 0) hx hb dL_isBestSo_223 (by decide) ?_
                  refine lv_iload_n hx hb dL_isBestSo_224 rfl (lv_at hl 1 rfl) ?_
                  refine lv_if_ne (tgt := 232) hx hb dL_isBestSo_225 (by decide) (fun c_44 => ?_) (fun c_44 => ?_)
                  · refine lv_iconst (v := 0) hx hb dL_isBestSo_232 (by decide) ?_
                    refine lv_icmp_ne (tgt := 252) hx hb dL_isBestSo_233 (by decide) (fun c_45 => absurd c_45 (by decide)) (fun c_45 => ?_)
                    refine lv_aload_n hx hb dL_isBestSo_236 rfl (lv_at hl 4 rfl) ?_
                    refine lv_bipush (v := 6) hx hb dL_isBestSo_237 (by decide) ?_
                    refine lv_iconst (v := 0) hx hb dL_isBestSo_239 (by decide) ?_
                    refine call_W (w1 := fun _ => wX9 z h a b c9 hh hh1 d0 d1 d2 d3 t9 t91 r9 r91 r92 r93 v) len9 (fun _ => len9) (rV (As := [.int 6, .int 0]) (rest := []) ⟨hx, hb, hml, hown, hts⟩ (c_X9_showOf l D z tM tS h a b c9 hh hh1 d0 d1 d2 d3 t9 t91 r9 r91 r92 r93 v 6 0 (by assumption) H.size) (cwV 2 hts gL_isBestSo_X9_showOf rfl rfl rfl (by decide +kernel) ⟨Nat.le_trans (by decide) hRf, Nat.le_trans (by decide) hRl⟩) (ev_ok tM tS) (e_go (ev_ok tM tS) hE hD hS hA (List.range 128) (gN len9)) hK hP hD (List.range 128) nd128 (gN len9) (va_recv hK hP (ci := 9) (q0 := 0) rfl rfl) rfl hl.1 rfl (Nat.le_of_ble_eq_true rfl) dL_isBestSo_240 ⟨Nat.zero_le _, Nat.zero_le _⟩) hK hP hD hS hA (fun zr zu H locs hw hP hD hS => ?_)
                    have hw : zr = (f_X9_showOf v 6 0) := hw
                    subst hw
                    have hP : va_P D vwCl (wX9 z h a b c9 hh hh1 d0 d1 d2 d3 t9 t91 r9 r91 r92 r93 v) H := hP
                    have hD : va_D A (wX9 z h a b c9 hh hh1 d0 d1 d2 d3 t9 t91 r9 r91 r92 r93 v) := hD
                    refine lv_ldc (v := (-10000005)) hx hb hown (hts (.constant RL 49 (-10000005)) (by decide +kernel)) dL_isBestSo_243 ?_
                    refine lv_icmp_ne (tgt := 252) hx hb dL_isBestSo_245 (by decide) (fun c_46 => ?_) (fun c_46 => ?_)
                    · refine lv_iconst (v := 0) hx hb dL_isBestSo_252 (by decide) ?_
                      subst hQ
                      exact ret_z () hx hb hr rfl hK hP hD hS rfl ⟨(by unfold f_L_isBestSo; rw [← hq12]; unfold f_L_isBestSo_12_x; rw [← hq117]; unfold f_L_isBestSo_117_x; rw [if_neg c_42, if_neg c_43, if_neg c_44, if_neg c_46]; try rfl), (Or.inl rfl)⟩ dL_isBestSo_253 hlocks
                    · refine lv_iconst (v := 1) hx hb dL_isBestSo_248 (by decide) ?_
                      refine lv_goto (tgt := 253) hx hb dL_isBestSo_249 (by decide) ?_
                      subst hQ
                      exact ret_z () hx hb hr rfl hK hP hD hS rfl ⟨(by unfold f_L_isBestSo; rw [← hq12]; unfold f_L_isBestSo_12_x; rw [← hq117]; unfold f_L_isBestSo_117_x; rw [if_neg c_42, if_neg c_43, if_neg c_44, if_pos c_46]; try rfl), (Or.inr rfl)⟩ dL_isBestSo_253 hlocks
                  · refine lv_iconst (v := 1) hx hb dL_isBestSo_228 (by decide) ?_
                    refine lv_goto (tgt := 233) hx hb dL_isBestSo_229 (by decide) ?_
                    refine lv_icmp_ne (tgt := 252) hx hb dL_isBestSo_233 (by decide) (fun c_47 => ?_) (fun c_47 => absurd c_47 (by decide))
                    refine lv_iconst (v := 0) hx hb dL_isBestSo_252 (by decide) ?_
                    subst hQ
                    exact ret_z () hx hb hr rfl hK hP hD hS rfl ⟨(by unfold f_L_isBestSo; rw [← hq12]; unfold f_L_isBestSo_12_x; rw [← hq117]; unfold f_L_isBestSo_117_x; rw [if_neg c_42, if_neg c_43, if_pos c_44]; try rfl), (Or.inl rfl)⟩ dL_isBestSo_253 hlocks
                · refine lv_iconst (v := 1) hx hb dL_isBestSo_219 (by decide) ?_
                  refine lv_goto (tgt := 224) hx hb dL_isBestSo_220 (by decide) ?_
                  refine lv_iload_n hx hb dL_isBestSo_224 rfl (lv_at hl 1 rfl) ?_
                  refine lv_if_ne (tgt := 232) hx hb dL_isBestSo_225 (by decide) (fun c_48 => ?_) (fun c_48 => ?_)
                  · refine lv_iconst (v := 0) hx hb dL_isBestSo_232 (by decide) ?_
                    refine lv_icmp_ne (tgt := 252) hx hb dL_isBestSo_233 (by decide) (fun c_49 => ?_) (fun c_49 => absurd c_49 (by decide))
                    refine lv_iconst (v := 0) hx hb dL_isBestSo_252 (by decide) ?_
                    subst hQ
                    exact ret_z () hx hb hr rfl hK hP hD hS rfl ⟨(by unfold f_L_isBestSo; rw [← hq12]; unfold f_L_isBestSo_12_x; rw [← hq117]; unfold f_L_isBestSo_117_x; rw [if_neg c_42, if_pos c_43, if_neg c_48]; try rfl), (Or.inl rfl)⟩ dL_isBestSo_253 hlocks
                  · refine lv_iconst (v := 1) hx hb dL_isBestSo_228 (by decide) ?_
                    refine lv_goto (tgt := 233) hx hb dL_isBestSo_229 (by decide) ?_
                    refine lv_icmp_ne (tgt := 252) hx hb dL_isBestSo_233 (by decide) (fun c_50 => absurd c_50 (by decide)) (fun c_50 => ?_)
                    refine lv_aload_n hx hb dL_isBestSo_236 rfl (lv_at hl 4 rfl) ?_
                    refine lv_bipush (v := 6) hx hb dL_isBestSo_237 (by decide) ?_
                    refine lv_iconst (v := 0) hx hb dL_isBestSo_239 (by decide) ?_
                    refine call_W (w1 := fun _ => wX9 z h a b c9 hh hh1 d0 d1 d2 d3 t9 t91 r9 r91 r92 r93 v) len9 (fun _ => len9) (rV (As := [.int 6, .int 0]) (rest := []) ⟨hx, hb, hml, hown, hts⟩ (c_X9_showOf l D z tM tS h a b c9 hh hh1 d0 d1 d2 d3 t9 t91 r9 r91 r92 r93 v 6 0 (by assumption) H.size) (cwV 2 hts gL_isBestSo_X9_showOf rfl rfl rfl (by decide +kernel) ⟨Nat.le_trans (by decide) hRf, Nat.le_trans (by decide) hRl⟩) (ev_ok tM tS) (e_go (ev_ok tM tS) hE hD hS hA (List.range 128) (gN len9)) hK hP hD (List.range 128) nd128 (gN len9) (va_recv hK hP (ci := 9) (q0 := 0) rfl rfl) rfl hl.1 rfl (Nat.le_of_ble_eq_true rfl) dL_isBestSo_240 ⟨Nat.zero_le _, Nat.zero_le _⟩) hK hP hD hS hA (fun zr zu H locs hw hP hD hS => ?_)
                    have hw : zr = (f_X9_showOf v 6 0) := hw
                    subst hw
                    have hP : va_P D vwCl (wX9 z h a b c9 hh hh1 d0 d1 d2 d3 t9 t91 r9 r91 r92 r93 v) H := hP
                    have hD : va_D A (wX9 z h a b c9 hh hh1 d0 d1 d2 d3 t9 t91 r9 r91 r92 r93 v) := hD
                    refine lv_ldc (v := (-10000005)) hx hb hown (hts (.constant RL 49 (-10000005)) (by decide +kernel)) dL_isBestSo_243 ?_
                    refine lv_icmp_ne (tgt := 252) hx hb dL_isBestSo_245 (by decide) (fun c_51 => ?_) (fun c_51 => ?_)
                    · refine lv_iconst (v := 0) hx hb dL_isBestSo_252 (by decide) ?_
                      subst hQ
                      exact ret_z () hx hb hr rfl hK hP hD hS rfl ⟨(by unfold f_L_isBestSo; rw [← hq12]; unfold f_L_isBestSo_12_x; rw [← hq117]; unfold f_L_isBestSo_117_x; rw [if_neg c_42, if_pos c_43, if_pos c_48, if_neg c_51]; try rfl), (Or.inl rfl)⟩ dL_isBestSo_253 hlocks
                    · refine lv_iconst (v := 1) hx hb dL_isBestSo_248 (by decide) ?_
                      refine lv_goto (tgt := 253) hx hb dL_isBestSo_249 (by decide) ?_
                      subst hQ
                      exact ret_z () hx hb hr rfl hK hP hD hS rfl ⟨(by unfold f_L_isBestSo; rw [← hq12]; unfold f_L_isBestSo_12_x; rw [← hq117]; unfold f_L_isBestSo_117_x; rw [if_neg c_42, if_pos c_43, if_pos c_48, if_pos c_51]; try rfl), (Or.inr rfl)⟩ dL_isBestSo_253 hlocks
        exact L117 (6 + 1) 0 q12.1 (lp_L_isBestSo_117_0 v q12 q12.1).symm (Nat.zero_le _) (by omega) _ _ _ hP hD hS (lv_sub hl [0, 1, 2, 3, 4] rfl)
  exact L12 (5 + 1) 0 (1, 0) (lp_L_isBestSo_12_0 v (1, 0)).symm (Nat.zero_le _) (by omega) _ _ _ hP hD hS (lv_sub hl [0, 1, 2, 3, 4] rfl)

