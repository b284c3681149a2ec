def f_L_areThingsSo_77_x (v : PV) (q9 : Int32 × Int32) (q77 : Int32 × Int32 × Int32) : Int32 := if q77.2.2 = 0 then 0 else if q77.1 = (f_X9_count v 2) then if q77.2.1 = (f_X9_count v 3) then 1 else 0 else 0
def st_L_areThingsSo_77 (v : PV) (q9 : Int32 × Int32) (k77 : Nat) (q77 : Int32 × Int32 × Int32) : Int32 × Int32 × Int32 := if (f_X9_reel v (nI k77) 0) = (-10000001) then ((q77.1 + 0), (q77.2.1 + 1), q77.2.2) else if (f_X9_reel v (nI k77) 0) = (-10000005) then if q77.2.2 = 0 then ((q77.1 + 1), (q77.2.1 + 0), 0) else if 5 ≤ (f_X9_reel v (nI k77) 0) then ((q77.1 + 1), (q77.2.1 + 0), 0) else if (f_X9_reel v (nI k77) 1) < 3 then ((q77.1 + 1), (q77.2.1 + 0), 0) else if ((f_X9_reel v (nI k77) 1) + (f_X9_reel v (nI k77) 3)) = (8 + (nI k77)) then if (f_X9_reel v (nI k77) 2) < 0 then ((q77.1 + 1), (q77.2.1 + 0), 0) else if 40 ≤ (f_X9_reel v (nI k77) 2) then ((q77.1 + 1), (q77.2.1 + 0), 0) else if 32 ≤ (f_X9_reel v (nI k77) 4) then ((q77.1 + 1), (q77.2.1 + 0), 0) else if (f_X9_reel v (nI k77) 5) = (WHI (f_X9_reel v (nI k77) 2) (f_X9_reel v (nI k77) 1)) then ((q77.1 + 1), (q77.2.1 + 0), 1) else ((q77.1 + 1), (q77.2.1 + 0), 0) else ((q77.1 + 1), (q77.2.1 + 0), 0) else if q77.2.2 = 0 then ((q77.1 + 0), (q77.2.1 + 0), 0) else if 5 ≤ (f_X9_reel v (nI k77) 0) then ((q77.1 + 0), (q77.2.1 + 0), 0) else if (f_X9_reel v (nI k77) 1) < 3 then ((q77.1 + 0), (q77.2.1 + 0), 0) else if ((f_X9_reel v (nI k77) 1) + (f_X9_reel v (nI k77) 3)) = (8 + (nI k77)) then if (f_X9_reel v (nI k77) 2) < 0 then ((q77.1 + 0), (q77.2.1 + 0), 0) else if 40 ≤ (f_X9_reel v (nI k77) 2) then ((q77.1 + 0), (q77.2.1 + 0), 0) else if 32 ≤ (f_X9_reel v (nI k77) 4) then ((q77.1 + 0), (q77.2.1 + 0), 0) else if (f_X9_reel v (nI k77) 5) = (WHI (f_X9_reel v (nI k77) 2) (f_X9_reel v (nI k77) 1)) then ((q77.1 + 0), (q77.2.1 + 0), 1) else ((q77.1 + 0), (q77.2.1 + 0), 0) else ((q77.1 + 0), (q77.2.1 + 0), 0)
def lp_L_areThingsSo_77 (v : PV) (q9 : Int32 × Int32) (i0 : Int32 × Int32 × Int32) : Nat → Int32 × Int32 × Int32
  | 0 => i0
  | k + 1 => st_L_areThingsSo_77 v q9 k (lp_L_areThingsSo_77 v q9 i0 k)
theorem lp_L_areThingsSo_77_0 (v : PV) (q9 : Int32 × Int32) (i0 : Int32 × Int32 × Int32) : lp_L_areThingsSo_77 v q9 i0 0 = i0 := rfl
theorem lp_L_areThingsSo_77_s (v : PV) (q9 : Int32 × Int32) (i0 : Int32 × Int32 × Int32) (k : Nat) : lp_L_areThingsSo_77 v q9 i0 (k + 1) = st_L_areThingsSo_77 v q9 k (lp_L_areThingsSo_77 v q9 i0 k) := rfl
def f_L_areThingsSo_9_x (v : PV) (q9 : Int32 × Int32) : Int32 := f_L_areThingsSo_77_x v q9 (lp_L_areThingsSo_77 v q9 (q9.1, 0, q9.2) 10)
def st_L_areThingsSo_9 (v : PV) (k9 : Nat) (q9 : Int32 × Int32) : Int32 × Int32 := if (f_X9_generator v (nI k9) 0) = (-10000005) then if q9.2 = 0 then ((q9.1 + 1), 0) else if (f_X9_generator v (nI k9) 1) < 0 then ((q9.1 + 1), 0) else if 500 < (f_X9_generator v (nI k9) 1) then ((q9.1 + 1), 0) else ((q9.1 + 1), 1) else if q9.2 = 0 then ((q9.1 + 0), 0) else if (f_X9_generator v (nI k9) 1) < 0 then ((q9.1 + 0), 0) else if 500 < (f_X9_generator v (nI k9) 1) then ((q9.1 + 0), 0) else ((q9.1 + 0), 1)
def lp_L_areThingsSo_9 (v : PV) (i0 : Int32 × Int32) : Nat → Int32 × Int32
  | 0 => i0
  | k + 1 => st_L_areThingsSo_9 v k (lp_L_areThingsSo_9 v i0 k)
theorem lp_L_areThingsSo_9_0 (v : PV) (i0 : Int32 × Int32) : lp_L_areThingsSo_9 v i0 0 = i0 := rfl
theorem lp_L_areThingsSo_9_s (v : PV) (i0 : Int32 × Int32) (k : Nat) : lp_L_areThingsSo_9 v i0 (k + 1) = st_L_areThingsSo_9 v k (lp_L_areThingsSo_9 v i0 k) := rfl
def f_L_areThingsSo (v : PV) : Int32 := f_L_areThingsSo_9_x v (lp_L_areThingsSo_9 v (0, 1) 2)
set_option maxRecDepth 100000 in
set_option maxHeartbeats 1000000 in
theorem c_L_areThingsSo (l : Launch) (D : va_G) (z : ClassId × ClassId × ClassId) (tM tS : Nat) (h : Nat) (a b c9 : Nat → Nat) (hh hh1 : Nat) (d0 d1 d2 d3 : Nat → Nat) (t9 t91 r9 r91 r92 r93 : Nat) (v : PV) (hn : v.2.2.2.1.2.1 = nI v.2.2.2.1.2.1.toNatClampNeg) (hn4 : v.2.2.2.1.2.1.toNatClampNeg < 4) (hV : vp_in v.1.2.2.2.2.2.1 5) (hW : WOK v.1.1) (hM : MOK v.1.1) (hLs : v.1.2.2.2.1.2.toInt ≤ 6) (sz : Nat) : CI l yL_areThingsSo wsL_areThingsSo 4 85 0 0 [.ref h] D z (wX9 z h a b c9 hh hh1 d0 d1 d2 d3 t9 t91 r9 r91 r92 r93 v) sz (EV tM tS) (fun (zr : Int32) (_ : Unit) => zr = f_L_areThingsSo v ∧ (zr = 0 ∨ zr = 1)) (fun _ => wX9 z h a b c9 hh hh1 d0 d1 d2 d3 t9 t91 r9 r91 r92 r93 v) := by
  refine met_i cL_areThingsSo 9 (some .boolean) (by decide) rfl (Nat.le_of_ble_eq_true rfl) ?_
  intro p e s m args below meth c R Q hx hb hr hml hts hown hlocks hin hRf hRl hRc hRs hc0 hs0 A H hA hP hK hD hS hE hQ ls hl
  have hl : lv_has ls 9 [(0, .ref h)] := hl
  have hP : va_P D vwCl (wX9 z h a b c9 hh hh1 d0 d1 d2 d3 t9 t91 r9 r91 r92 r93 v) H := hP
  have hD : va_D A (wX9 z h a b c9 hh hh1 d0 d1 d2 d3 t9 t91 r9 r91 r92 r93 v) := hD
  have hown : s.vm.findClass RL = some m.cls := hown
  refine lv_iconst (v := 0) hx hb dL_areThingsSo_0 (by decide) ?_
  refine lv_istore_n (lv' := [(1, .int 0), (0, .ref h)]) hx hb dL_areThingsSo_1 rfl hl (by decide) rfl (fun ls hl => ?_)
  refine lv_iconst (v := 0) hx hb dL_areThingsSo_2 (by decide) ?_
  refine lv_istore_n (lv' := [(2, .int 0), (1, .int 0), (0, .ref h)]) hx hb dL_areThingsSo_3 rfl hl (by decide) rfl (fun ls hl => ?_)
  refine lv_iconst (v := 1) hx hb dL_areThingsSo_4 (by decide) ?_
  refine lv_istore_n (lv' := [(3, .int 1), (2, .int 0), (1, .int 0), (0, .ref h)]) hx hb dL_areThingsSo_5 rfl hl (by decide) rfl (fun ls hl => ?_)
  refine lv_iconst (v := 0) hx hb dL_areThingsSo_6 (by decide) ?_
  refine lv_istore (lv' := [(4, .int 0), (3, .int 1), (2, .int 0), (1, .int 0), (0, .ref h)]) hx hb dL_areThingsSo_7 hl (by decide) rfl (fun ls hl => ?_)
  have L9 : ∀ (n9 k9 : Nat) (q9 : Int32 × Int32), q9 = lp_L_areThingsSo_9 v (0, 1) k9 → k9 ≤ 2 → 2 + 1 ≤ k9 + n9 → ∀ (H : Heap) (locs : List Loc) (ls : Array Slot), va_P D vwCl (wX9 z h a b c9 hh hh1 d0 d1 d2 d3 t9 t91 r9 r91 r92 r93 v) H → va_D A (wX9 z h a b c9 hh hh1 d0 d1 d2 d3 t9 t91 r9 r91 r92 r93 v) → va_S A s.heap H locs → lv_has ls 9 [(4, .int (nI k9)), (3, .int q9.2), (2, .int 0), (1, .int q9.1), (0, .ref h)] → W p l e R s m args below meth c H locs 0 0 Q (F0 m 9 ls []) := by
    intro n9
    induction n9 with
    | zero => intro k9 q9 hq9 h1 h2; exact absurd h2 (by omega)
    | succ n9 ih9 =>
      intro k9 q9 hq9 hk9 hn9 H locs ls hP hD hS hl
      refine lv_iload hx hb dL_areThingsSo_9 (lv_at hl 0 rfl) ?_
      refine lv_iconst (v := 2) hx hb dL_areThingsSo_11 (by decide) ?_
      rcases Nat.lt_or_ge k9 2 with hlt | hge
      · refine lv_icmp_ge (tgt := 74) hx hb dL_areThingsSo_12 (by decide) (fun c_2 => absurd c_2 (nI_ge (a := k9) (b := 2) (by omega) (by omega))) (fun c_2 => ?_)
        refine lv_iload_n hx hb dL_areThingsSo_15 rfl (lv_at hl 3 rfl) ?_
        refine lv_aload_n hx hb dL_areThingsSo_16 rfl (lv_at hl 4 rfl) ?_
        refine lv_iload hx hb dL_areThingsSo_17 (lv_at hl 0 rfl) ?_
        refine lv_iconst (v := 0) hx hb dL_areThingsSo_19 (by decide) ?_
        refine call_W (w1 := fun _ => wX9 z h a b c9 hh hh1 d0 d1 d2 d3 t9 t91 r9 r91 r92 r93 v) len9 (fun _ => len9) (rV (As := [.int (nI k9), .int 0]) (rest := [.int q9.1]) ⟨hx, hb, hml, hown, hts⟩ (c_X9_generator l D z tM tS h a b c9 hh hh1 d0 d1 d2 d3 t9 t91 r9 r91 r92 r93 v (nI k9) 0 H.size) (cwV 2 hts gL_areThingsSo_X9_generator rfl rfl rfl (by decide +kernel) ⟨Nat.le_trans (by decide) hRf, Nat.le_trans (by decide) hRl⟩) (ev_ok tM tS) (e_go (ev_ok tM tS) hE hD hS hA (List.range 128) (gN len9)) hK hP hD (List.range 128) nd128 (gN len9) (va_recv hK hP (ci := 9) (q0 := 0) rfl rfl) rfl hl.1 rfl (Nat.le_of_ble_eq_true rfl) dL_areThingsSo_20 ⟨Nat.zero_le _, Nat.zero_le _⟩) hK hP hD hS hA (fun zr zu H locs hw hP hD hS => ?_)
        have hw : zr = (f_X9_generator v (nI k9) 0) := hw
        subst hw
        have hP : va_P D vwCl (wX9 z h a b c9 hh hh1 d0 d1 d2 d3 t9 t91 r9 r91 r92 r93 v) H := hP
        have hD : va_D A (wX9 z h a b c9 hh hh1 d0 d1 d2 d3 t9 t91 r9 r91 r92 r93 v) := hD
        refine lv_ldc (v := (-10000005)) hx hb hown (hts (.constant RL 49 (-10000005)) (by decide +kernel)) dL_areThingsSo_23 ?_
        refine lv_icmp_ne (tgt := 32) hx hb dL_areThingsSo_25 (by decide) (fun c_3 => ?_) (fun c_3 => ?_)
        · refine lv_iconst (v := 0) hx hb dL_areThingsSo_32 (by decide) ?_
          refine lv_iadd hx hb dL_areThingsSo_33 ?_
          refine lv_istore_n (lv' := [(1, .int (q9.1 + 0)), (4, .int (nI k9)), (3, .int q9.2), (2, .int 0), (0, .ref h)]) hx hb dL_areThingsSo_34 rfl hl (by decide) rfl (fun ls hl => ?_)
          refine lv_iload_n hx hb dL_areThingsSo_35 rfl (lv_at hl 2 rfl) ?_
          refine lv_if_eq (tgt := 66) hx hb dL_areThingsSo_36 (by decide) (fun c_4 => ?_) (fun c_4 => ?_)
          · refine lv_iconst (v := 0) hx hb dL_areThingsSo_66 (by decide) ?_
            refine lv_istore_n (lv' := [(3, .int 0), (1, .int (q9.1 + 0)), (4, .int (nI k9)), (2, .int 0), (0, .ref h)]) hx hb dL_areThingsSo_67 rfl hl (by decide) rfl (fun ls hl => ?_)
            refine lv_iinc (v := nI (k9 + 1)) (lv' := [(4, .int (nI (k9 + 1))), (3, .int 0), (1, .int (q9.1 + 0)), (2, .int 0), (0, .ref h)]) hx hb dL_areThingsSo_68 hl (k := 2) rfl (nI_add k9 1) (by decide) rfl (fun ls hl => ?_)
            refine lv_goto (tgt := 9) hx hb dL_areThingsSo_71 (by decide) ?_
            exact ih9 (k9 + 1) ((q9.1 + 0), 0) (by rw [lp_L_areThingsSo_9_s, ← hq9]; unfold st_L_areThingsSo_9; rw [if_neg c_3, if_pos c_4]; try rfl) (by omega) (by omega) _ _ _ hP hD hS (lv_sub hl [0, 1, 3, 2, 4] rfl)
          · refine lv_aload_n hx hb dL_areThingsSo_39 rfl (lv_at hl 4 rfl) ?_
            refine lv_iload hx hb dL_areThingsSo_40 (lv_at hl 1 rfl) ?_
            refine lv_iconst (v := 1) hx hb dL_areThingsSo_42 (by decide) ?_
            refine call_W (w1 := fun _ => wX9 z h a b c9 hh hh1 d0 d1 d2 d3 t9 t91 r9 r91 r92 r93 v) len9 (fun _ => len9) (rV (As := [.int (nI k9), .int 1]) (rest := []) ⟨hx, hb, hml, hown, hts⟩ (c_X9_generator l D z tM tS h a b c9 hh hh1 d0 d1 d2 d3 t9 t91 r9 r91 r92 r93 v (nI k9) 1 H.size) (cwV 2 hts gL_areThingsSo_X9_generator rfl rfl rfl (by decide +kernel) ⟨Nat.le_trans (by decide) hRf, Nat.le_trans (by decide) hRl⟩) (ev_ok tM tS) (e_go (ev_ok tM tS) hE hD hS hA (List.range 128) (gN len9)) hK hP hD (List.range 128) nd128 (gN len9) (va_recv hK hP (ci := 9) (q0 := 0) rfl rfl) rfl hl.1 rfl (Nat.le_of_ble_eq_true rfl) dL_areThingsSo_43 ⟨Nat.zero_le _, Nat.zero_le _⟩) hK hP hD hS hA (fun zr zu H locs hw hP hD hS => ?_)
            have hw : zr = (f_X9_generator v (nI k9) 1) := hw
            subst hw
            have hP : va_P D vwCl (wX9 z h a b c9 hh hh1 d0 d1 d2 d3 t9 t91 r9 r91 r92 r93 v) H := hP
            have hD : va_D A (wX9 z h a b c9 hh hh1 d0 d1 d2 d3 t9 t91 r9 r91 r92 r93 v) := hD
            refine lv_if_lt (tgt := 66) hx hb dL_areThingsSo_46 (by decide) (fun c_5 => ?_) (fun c_5 => ?_)
            · refine lv_iconst (v := 0) hx hb dL_areThingsSo_66 (by decide) ?_
              refine lv_istore_n (lv' := [(3, .int 0), (1, .int (q9.1 + 0)), (4, .int (nI k9)), (2, .int 0), (0, .ref h)]) hx hb dL_areThingsSo_67 rfl hl (by decide) rfl (fun ls hl => ?_)
              refine lv_iinc (v := nI (k9 + 1)) (lv' := [(4, .int (nI (k9 + 1))), (3, .int 0), (1, .int (q9.1 + 0)), (2, .int 0), (0, .ref h)]) hx hb dL_areThingsSo_68 hl (k := 2) rfl (nI_add k9 1) (by decide) rfl (fun ls hl => ?_)
              refine lv_goto (tgt := 9) hx hb dL_areThingsSo_71 (by decide) ?_
              exact ih9 (k9 + 1) ((q9.1 + 0), 0) (by rw [lp_L_areThingsSo_9_s, ← hq9]; unfold st_L_areThingsSo_9; rw [if_neg c_3, if_neg c_4, if_pos c_5]; try rfl) (by omega) (by omega) _ _ _ hP hD hS (lv_sub hl [0, 1, 3, 2, 4] rfl)
            · refine lv_aload_n hx hb dL_areThingsSo_49 rfl (lv_at hl 4 rfl) ?_
              refine lv_iload hx hb dL_areThingsSo_50 (lv_at hl 1 rfl) ?_
              refine lv_iconst (v := 1) hx hb dL_areThingsSo_52 (by decide) ?_
              refine call_W (w1 := fun _ => wX9 z h a b c9 hh hh1 d0 d1 d2 d3 t9 t91 r9 r91 r92 r93 v) len9 (fun _ => len9) (rV (As := [.int (nI k9), .int 1]) (rest := []) ⟨hx, hb, hml, hown, hts⟩ (c_X9_generator l D z tM tS h a b c9 hh hh1 d0 d1 d2 d3 t9 t91 r9 r91 r92 r93 v (nI k9) 1 H.size) (cwV 2 hts gL_areThingsSo_X9_generator rfl rfl rfl (by decide +kernel) ⟨Nat.le_trans (by decide) hRf, Nat.le_trans (by decide) hRl⟩) (ev_ok tM tS) (e_go (ev_ok tM tS) hE hD hS hA (List.range 128) (gN len9)) hK hP hD (List.range 128) nd128 (gN len9) (va_recv hK hP (ci := 9) (q0 := 0) rfl rfl) rfl hl.1 rfl (Nat.le_of_ble_eq_true rfl) dL_areThingsSo_53 ⟨Nat.zero_le _, Nat.zero_le _⟩) hK hP hD hS hA (fun zr zu H locs hw hP hD hS => ?_)
              have hw : zr = (f_X9_generator v (nI k9) 1) := hw
              subst hw
              have hP : va_P D vwCl (wX9 z h a b c9 hh hh1 d0 d1 d2 d3 t9 t91 r9 r91 r92 r93 v) H := hP
              have hD : va_D A (wX9 z h a b c9 hh hh1 d0 d1 d2 d3 t9 t91 r9 r91 r92 r93 v) := hD
              refine lv_sipush (v := 500) hx hb dL_areThingsSo_56 (by decide) ?_
              refine lv_icmp_gt (tgt := 66) hx hb dL_areThingsSo_59 (by decide) (fun c_6 => ?_) (fun c_6 => ?_)
              · refine lv_iconst (v := 0) hx hb dL_areThingsSo_66 (by decide) ?_
                refine lv_istore_n (lv' := [(3, .int 0), (1, .int (q9.1 + 0)), (4, .int (nI k9)), (2, .int 0), (0, .ref h)]) hx hb dL_areThingsSo_67 rfl hl (by decide) rfl (fun ls hl => ?_)
                refine lv_iinc (v := nI (k9 + 1)) (lv' := [(4, .int (nI (k9 + 1))), (3, .int 0), (1, .int (q9.1 + 0)), (2, .int 0), (0, .ref h)]) hx hb dL_areThingsSo_68 hl (k := 2) rfl (nI_add k9 1) (by decide) rfl (fun ls hl => ?_)
                refine lv_goto (tgt := 9) hx hb dL_areThingsSo_71 (by decide) ?_
                exact ih9 (k9 + 1) ((q9.1 + 0), 0) (by rw [lp_L_areThingsSo_9_s, ← hq9]; unfold st_L_areThingsSo_9; rw [if_neg c_3, if_neg c_4, if_neg c_5, if_pos c_6]; try rfl) (by omega) (by omega) _ _ _ hP hD hS (lv_sub hl [0, 1, 3, 2, 4] rfl)
              · refine lv_iconst (v := 1) hx hb dL_areThingsSo_62 (by decide) ?_
                refine lv_goto (tgt := 67) hx hb dL_areThingsSo_63 (by decide) ?_
                refine lv_istore_n (lv' := [(3, .int 1), (1, .int (q9.1 + 0)), (4, .int (nI k9)), (2, .int 0), (0, .ref h)]) hx hb dL_areThingsSo_67 rfl hl (by decide) rfl (fun ls hl => ?_)
                refine lv_iinc (v := nI (k9 + 1)) (lv' := [(4, .int (nI (k9 + 1))), (3, .int 1), (1, .int (q9.1 + 0)), (2, .int 0), (0, .ref h)]) hx hb dL_areThingsSo_68 hl (k := 2) rfl (nI_add k9 1) (by decide) rfl (fun ls hl => ?_)
                refine lv_goto (tgt := 9) hx hb dL_areThingsSo_71 (by decide) ?_
                exact ih9 (k9 + 1) ((q9.1 + 0), 1) (by rw [lp_L_areThingsSo_9_s, ← hq9]; unfold st_L_areThingsSo_9; rw [if_neg c_3, if_neg c_4, if_neg c_5, if_neg c_6]; try rfl) (by omega) (by omega) _ _ _ hP hD hS (lv_sub hl [0, 1, 3, 2, 4] rfl)
        · refine lv_iconst (v := 1) hx hb dL_areThingsSo_28 (by decide) ?_
          refine lv_goto (tgt := 33) hx hb dL_areThingsSo_29 (by decide) ?_
          refine lv_iadd hx hb dL_areThingsSo_33 ?_
          refine lv_istore_n (lv' := [(1, .int (q9.1 + 1)), (4, .int (nI k9)), (3, .int q9.2), (2, .int 0), (0, .ref h)]) hx hb dL_areThingsSo_34 rfl hl (by decide) rfl (fun ls hl => ?_)
          refine lv_iload_n hx hb dL_areThingsSo_35 rfl (lv_at hl 2 rfl) ?_
          refine lv_if_eq (tgt := 66) hx hb dL_areThingsSo_36 (by decide) (fun c_7 => ?_) (fun c_7 => ?_)
          · refine lv_iconst (v := 0) hx hb dL_areThingsSo_66 (by decide) ?_
            refine lv_istore_n (lv' := [(3, .int 0), (1, .int (q9.1 + 1)), (4, .int (nI k9)), (2, .int 0), (0, .ref h)]) hx hb dL_areThingsSo_67 rfl hl (by decide) rfl (fun ls hl => ?_)
            refine lv_iinc (v := nI (k9 + 1)) (lv' := [(4, .int (nI (k9 + 1))), (3, .int 0), (1, .int (q9.1 + 1)), (2, .int 0), (0, .ref h)]) hx hb dL_areThingsSo_68 hl (k := 2) rfl (nI_add k9 1) (by decide) rfl (fun ls hl => ?_)
            refine lv_goto (tgt := 9) hx hb dL_areThingsSo_71 (by decide) ?_
            exact ih9 (k9 + 1) ((q9.1 + 1), 0) (by rw [lp_L_areThingsSo_9_s, ← hq9]; unfold st_L_areThingsSo_9; rw [if_pos c_3, if_pos c_7]; try rfl) (by omega) (by omega) _ _ _ hP hD hS (lv_sub hl [0, 1, 3, 2, 4] rfl)
          · refine lv_aload_n hx hb dL_areThingsSo_39 rfl (lv_at hl 4 rfl) ?_
            refine lv_iload hx hb dL_areThingsSo_40 (lv_at hl 1 rfl) ?_
            refine lv_iconst (v := 1) hx hb dL_areThingsSo_42 (by decide) ?_
            refine call_W (w1 := fun _ => wX9 z h a b c9 hh hh1 d0 d1 d2 d3 t9 t91 r9 r91 r92 r93 v) len9 (fun _ => len9) (rV (As := [.int (nI k9), .int 1]) (rest := []) ⟨hx, hb, hml, hown, hts⟩ (c_X9_generator l D z tM tS h a b c9 hh hh1 d0 d1 d2 d3 t9 t91 r9 r91 r92 r93 v (nI k9) 1 H.size) (cwV 2 hts gL_areThingsSo_X9_generator rfl rfl rfl (by decide +kernel) ⟨Nat.le_trans (by decide) hRf, Nat.le_trans (by decide) hRl⟩) (ev_ok tM tS) (e_go (ev_ok tM tS) hE hD hS hA (List.range 128) (gN len9)) hK hP hD (List.range 128) nd128 (gN len9) (va_recv hK hP (ci := 9) (q0 := 0) rfl rfl) rfl hl.1 rfl (Nat.le_of_ble_eq_true rfl) dL_areThingsSo_43 ⟨Nat.zero_le _, Nat.zero_le _⟩) hK hP hD hS hA (fun zr zu H locs hw hP hD hS => ?_)
            have hw : zr = (f_X9_generator v (nI k9) 1) := hw
            subst hw
            have hP : va_P D vwCl (wX9 z h a b c9 hh hh1 d0 d1 d2 d3 t9 t91 r9 r91 r92 r93 v) H := hP
            have hD : va_D A (wX9 z h a b c9 hh hh1 d0 d1 d2 d3 t9 t91 r9 r91 r92 r93 v) := hD
            refine lv_if_lt (tgt := 66) hx hb dL_areThingsSo_46 (by decide) (fun c_8 => ?_) (fun c_8 => ?_)
            · refine lv_iconst (v := 0) hx hb dL_areThingsSo_66 (by decide) ?_
              refine lv_istore_n (lv' := [(3, .int 0), (1, .int (q9.1 + 1)), (4, .int (nI k9)), (2, .int 0), (0, .ref h)]) hx hb dL_areThingsSo_67 rfl hl (by decide) rfl (fun ls hl => ?_)
              refine lv_iinc (v := nI (k9 + 1)) (lv' := [(4, .int (nI (k9 + 1))), (3, .int 0), (1, .int (q9.1 + 1)), (2, .int 0), (0, .ref h)]) hx hb dL_areThingsSo_68 hl (k := 2) rfl (nI_add k9 1) (by decide) rfl (fun ls hl => ?_)
              refine lv_goto (tgt := 9) hx hb dL_areThingsSo_71 (by decide) ?_
              exact ih9 (k9 + 1) ((q9.1 + 1), 0) (by rw [lp_L_areThingsSo_9_s, ← hq9]; unfold st_L_areThingsSo_9; rw [if_pos c_3, if_neg c_7, if_pos c_8]; try rfl) (by omega) (by omega) _ _ _ hP hD hS (lv_sub hl [0, 1, 3, 2, 4] rfl)
            · refine lv_aload_n hx hb dL_areThingsSo_49 rfl (lv_at hl 4 rfl) ?_
              refine lv_iload hx hb dL_areThingsSo_50 (lv_at hl 1 rfl) ?_
              refine lv_iconst (v := 1) hx hb dL_areThingsSo_52 (by decide) ?_
              refine call_W (w1 := fun _ => wX9 z h a b c9 hh hh1 d0 d1 d2 d3 t9 t91 r9 r91 r92 r93 v) len9 (fun _ => len9) (rV (As := [.int (nI k9), .int 1]) (rest := []) ⟨hx, hb, hml, hown, hts⟩ (c_X9_generator l D z tM tS h a b c9 hh hh1 d0 d1 d2 d3 t9 t91 r9 r91 r92 r93 v (nI k9) 1 H.size) (cwV 2 hts gL_areThingsSo_X9_generator rfl rfl rfl (by decide +kernel) ⟨Nat.le_trans (by decide) hRf, Nat.le_trans (by decide) hRl⟩) (ev_ok tM tS) (e_go (ev_ok tM tS) hE hD hS hA (List.range 128) (gN len9)) hK hP hD (List.range 128) nd128 (gN len9) (va_recv hK hP (ci := 9) (q0 := 0) rfl rfl) rfl hl.1 rfl (Nat.le_of_ble_eq_true rfl) dL_areThingsSo_53 ⟨Nat.zero_le _, Nat.zero_le _⟩) hK hP hD hS hA (fun zr zu H locs hw hP hD hS => ?_)
              have hw : zr = (f_X9_generator v (nI k9) 1) := hw
              subst hw
              have hP : va_P D vwCl (wX9 z h a b c9 hh hh1 d0 d1 d2 d3 t9 t91 r9 r91 r92 r93 v) H := hP
              have hD : va_D A (wX9 z h a b c9 hh hh1 d0 d1 d2 d3 t9 t91 r9 r91 r92 r93 v) := hD
              refine lv_sipush (v := 500) hx hb dL_areThingsSo_56 (by decide) ?_
              refine lv_icmp_gt (tgt := 66) hx hb dL_areThingsSo_59 (by decide) (fun c_9 => ?_) (fun c_9 => ?_)
              · refine lv_iconst (v := 0) hx hb dL_areThingsSo_66 (by decide) ?_
                refine lv_istore_n (lv' := [(3, .int 0), (1, .int (q9.1 + 1)), (4, .int (nI k9)), (2, .int 0), (0, .ref h)]) hx hb dL_areThingsSo_67 rfl hl (by decide) rfl (fun ls hl => ?_)
                refine lv_iinc (v := nI (k9 + 1)) (lv' := [(4, .int (nI (k9 + 1))), (3, .int 0), (1, .int (q9.1 + 1)), (2, .int 0), (0, .ref h)]) hx hb dL_areThingsSo_68 hl (k := 2) rfl (nI_add k9 1) (by decide) rfl (fun ls hl => ?_)
                refine lv_goto (tgt := 9) hx hb dL_areThingsSo_71 (by decide) ?_
                exact ih9 (k9 + 1) ((q9.1 + 1), 0) (by rw [lp_L_areThingsSo_9_s, ← hq9]; unfold st_L_areThingsSo_9; rw [if_pos c_3, if_neg c_7, if_neg c_8, if_pos c_9]; try rfl) (by omega) (by omega) _ _ _ hP hD hS (lv_sub hl [0, 1, 3, 2, 4] rfl)
              · refine lv_iconst (v := 1) hx hb dL_areThingsSo_62 (by decide) ?_
                refine lv_goto (tgt := 67) hx hb dL_areThingsSo_63 (by decide) ?_
                refine lv_istore_n (lv' := [(3, .int 1), (1, .int (q9.1 + 1)), (4, .int (nI k9)), (2, .int 0), (0, .ref h)]) hx hb dL_areThingsSo_67 rfl hl (by decide) rfl (fun ls hl => ?_)
                refine lv_iinc (v := nI (k9 + 1)) (lv' := [(4, .int (nI (k9 + 1))), (3, .int 1), (1, .int (q9.1 + 1)), (2, .int 0), (0, .ref h)]) hx hb dL_areThingsSo_68 hl (k := 2) rfl (nI_add k9 1) (by decide) rfl (fun ls hl => ?_)
                refine lv_goto (tgt := 9) hx hb dL_areThingsSo_71 (by decide) ?_
                exact ih9 (k9 + 1) ((q9.1 + 1), 1) (by rw [lp_L_areThingsSo_9_s, ← hq9]; unfold st_L_areThingsSo_9; rw [if_pos c_3, if_neg c_7, if_neg c_8, if_neg c_9]; try rfl) (by omega) (by omega) _ _ _ hP hD hS (lv_sub hl [0, 1, 3, 2, 4] rfl)
      · obtain rfl : 2 = k9 := by omega
        refine lv_icmp_ge (tgt := 74) hx hb dL_areThingsSo_12 (by decide) (fun c_2 => ?_) (fun c_2 => absurd (nI_le (a := 2) (b := 2) (by omega) (by omega)) c_2)
        have hP : va_P D vwCl (wX9 z h a b c9 hh hh1 d0 d1 d2 d3 t9 t91 r9 r91 r92 r93 v) H := hP
        have hD : va_D A (wX9 z h a b c9 hh hh1 d0 d1 d2 d3 t9 t91 r9 r91 r92 r93 v) := hD
        refine lv_iconst (v := 0) hx hb dL_areThingsSo_74 (by decide) ?_
        refine lv_istore (lv' := [(4, .int 0), (3, .int q9.2), (2, .int 0), (1, .int q9.1), (0, .ref h)]) hx hb dL_areThingsSo_75 hl (by decide) rfl (fun ls hl => ?_)
        have L77 : ∀ (n77 k77 : Nat) (q77 : Int32 × Int32 × Int32), q77 = lp_L_areThingsSo_77 v q9 (q9.1, 0, q9.2) k77 → k77 ≤ 10 → 10 + 1 ≤ k77 + n77 → ∀ (H : Heap) (locs : List Loc) (ls : Array Slot), va_P D vwCl (wX9 z h a b c9 hh hh1 d0 d1 d2 d3 t9 t91 r9 r91 r92 r93 v) H → va_D A (wX9 z h a b c9 hh hh1 d0 d1 d2 d3 t9 t91 r9 r91 r92 r93 v) → va_S A s.heap H locs → lv_has ls 9 [(4, .int (nI k77)), (3, .int q77.2.2), (2, .int q77.2.1), (1, .int q77.1), (0, .ref h)] → W p l e R s m args below meth c H locs 0 0 Q (F0 m 77 ls []) := by
          intro n77
          induction n77 with
          | zero => intro k77 q77 hq77 h1 h2; exact absurd h2 (by omega)
          | succ n77 ih77 =>
            intro k77 q77 hq77 hk77 hn77 H locs ls hP hD hS hl
            refine lv_iload hx hb dL_areThingsSo_77 (lv_at hl 0 rfl) ?_
            refine lv_bipush (v := 10) hx hb dL_areThingsSo_79 (by decide) ?_
            rcases Nat.lt_or_ge k77 10 with hlt | hge
            · refine lv_icmp_ge (tgt := 303) hx hb dL_areThingsSo_81 (by decide) (fun c_11 => absurd c_11 (nI_ge (a := k77) (b := 10) (by omega) (by omega))) (fun c_11 => ?_)
              refine lv_aload_n hx hb dL_areThingsSo_84 rfl (lv_at hl 4 rfl) ?_
              refine lv_iload hx hb dL_areThingsSo_85 (lv_at hl 0 rfl) ?_
              refine lv_iconst (v := 0) hx hb dL_areThingsSo_87 (by decide) ?_
              refine call_W (w1 := fun _ => wX9 z h a b c9 hh hh1 d0 d1 d2 d3 t9 t91 r9 r91 r92 r93 v) len9 (fun _ => len9) (rV (As := [.int (nI k77), .int 0]) (rest := []) ⟨hx, hb, hml, hown, hts⟩ (c_X9_reel l D z tM tS h a b c9 hh hh1 d0 d1 d2 d3 t9 t91 r9 r91 r92 r93 v (nI k77) 0 (by assumption) (by assumption) H.size) (cwV 2 hts gL_areThingsSo_X9_reel rfl rfl rfl (by decide +kernel) ⟨Nat.le_trans (by decide) hRf, Nat.le_trans (by decide) hRl⟩) (ev_ok tM tS) (e_go (ev_ok tM tS) hE hD hS hA (List.range 128) (gN len9)) hK hP hD (List.range 128) nd128 (gN len9) (va_recv hK hP (ci := 9) (q0 := 0) rfl rfl) rfl hl.1 rfl (Nat.le_of_ble_eq_true rfl) dL_areThingsSo_88 ⟨Nat.zero_le _, Nat.zero_le _⟩) hK hP hD hS hA (fun zr zu H locs hw hP hD hS => ?_)
              have hw : zr = (f_X9_reel v (nI k77) 0) := hw
              subst hw
              have hP : va_P D vwCl (wX9 z h a b c9 hh hh1 d0 d1 d2 d3 t9 t91 r9 r91 r92 r93 v) H := hP
              have hD : va_D A (wX9 z h a b c9 hh hh1 d0 d1 d2 d3 t9 t91 r9 r91 r92 r93 v) := hD
              refine lv_istore (lv' := [(5, .int (f_X9_reel v (nI k77) 0)), (4, .int (nI k77)), (3, .int q77.2.2), (2, .int q77.2.1), (1, .int q77.1), (0, .ref h)]) hx hb dL_areThingsSo_91 hl (by decide) rfl (fun ls hl => ?_)
              refine lv_iload_n hx hb dL_areThingsSo_93 rfl (lv_at hl 3 rfl) ?_
              refine lv_iload hx hb dL_areThingsSo_94 (lv_at hl 0 rfl) ?_
              refine lv_ldc (v := (-10000001)) hx hb hown (hts (.constant RL 53 (-10000001)) (by decide +kernel)) dL_areThingsSo_96 ?_
              refine lv_icmp_ne (tgt := 105) hx hb dL_areThingsSo_98 (by decide) (fun c_12 => ?_) (fun c_12 => ?_)
              · refine lv_iconst (v := 0) hx hb dL_areThingsSo_105 (by decide) ?_
                refine lv_iadd hx hb dL_areThingsSo_106 ?_
                refine lv_istore_n (lv' := [(2, .int (q77.2.1 + 0)), (5, .int (f_X9_reel v (nI k77) 0)), (4, .int (nI k77)), (3, .int q77.2.2), (1, .int q77.1), (0, .ref h)]) hx hb dL_areThingsSo_107 rfl hl (by decide) rfl (fun ls hl => ?_)
                refine lv_iload_n hx hb dL_areThingsSo_108 rfl (lv_at hl 4 rfl) ?_
                refine lv_iload hx hb dL_areThingsSo_109 (lv_at hl 1 rfl) ?_
                refine lv_ldc (v := (-10000005)) hx hb hown (hts (.constant RL 49 (-10000005)) (by decide +kernel)) dL_areThingsSo_111 ?_
                refine lv_icmp_ne (tgt := 120) hx hb dL_areThingsSo_113 (by decide) (fun c_13 => ?_) (fun c_13 => ?_)
                · refine lv_iconst (v := 0) hx hb dL_areThingsSo_120 (by decide) ?_
                  refine lv_iadd hx hb dL_areThingsSo_121 ?_
                  refine lv_istore_n (lv' := [(1, .int (q77.1 + 0)), (2, .int (q77.2.1 + 0)), (5, .int (f_X9_reel v (nI k77) 0)), (4, .int (nI k77)), (3, .int q77.2.2), (0, .ref h)]) hx hb dL_areThingsSo_122 rfl hl (by decide) rfl (fun ls hl => ?_)
                  refine lv_iload hx hb dL_areThingsSo_123 (lv_at hl 2 rfl) ?_
                  refine lv_ldc (v := (-10000001)) hx hb hown (hts (.constant RL 53 (-10000001)) (by decide +kernel)) dL_areThingsSo_125 ?_
                  refine lv_icmp_eq (tgt := 297) hx hb dL_areThingsSo_127 (by decide) (fun c_14 => absurd c_14 c_12) (fun c_14 => ?_)
                  refine lv_aload_n hx hb dL_areThingsSo_130 rfl (lv_at hl 5 rfl) ?_
                  refine lv_iload hx hb dL_areThingsSo_131 (lv_at hl 3 rfl) ?_
                  refine lv_iconst (v := 2) hx hb dL_areThingsSo_133 (by decide) ?_
                  refine call_W (w1 := fun _ => wX9 z h a b c9 hh hh1 d0 d1 d2 d3 t9 t91 r9 r91 r92 r93 v) len9 (fun _ => len9) (rV (As := [.int (nI k77), .int 2]) (rest := []) ⟨hx, hb, hml, hown, hts⟩ (c_X9_reel l D z tM tS h a b c9 hh hh1 d0 d1 d2 d3 t9 t91 r9 r91 r92 r93 v (nI k77) 2 (by assumption) (by assumption) H.size) (cwV 2 hts gL_areThingsSo_X9_reel rfl rfl rfl (by decide +kernel) ⟨Nat.le_trans (by decide) hRf, Nat.le_trans (by decide) hRl⟩) (ev_ok tM tS) (e_go (ev_ok tM tS) hE hD hS hA (List.range 128) (gN len9)) hK hP hD (List.range 128) nd128 (gN len9) (va_recv hK hP (ci := 9) (q0 := 0) rfl rfl) rfl hl.1 rfl (Nat.le_of_ble_eq_true rfl) dL_areThingsSo_134 ⟨Nat.zero_le _, Nat.zero_le _⟩) hK hP hD hS hA (fun zr zu H locs hw hP hD hS => ?_)
                  have hw : zr = (f_X9_reel v (nI k77) 2) := hw
                  subst hw
                  have hP : va_P D vwCl (wX9 z h a b c9 hh hh1 d0 d1 d2 d3 t9 t91 r9 r91 r92 r93 v) H := hP
                  have hD : va_D A (wX9 z h a b c9 hh hh1 d0 d1 d2 d3 t9 t91 r9 r91 r92 r93 v) := hD
                  refine lv_istore (lv' := [(6, .int (f_X9_reel v (nI k77) 2)), (1, .int (q77.1 + 0)), (2, .int (q77.2.1 + 0)), (5, .int (f_X9_reel v (nI k77) 0)), (4, .int (nI k77)), (3, .int q77.2.2), (0, .ref h)]) hx hb dL_areThingsSo_137 hl (by decide) rfl (fun ls hl => ?_)
                  refine lv_aload_n hx hb dL_areThingsSo_139 rfl (lv_at hl 6 rfl) ?_
                  refine lv_iload hx hb dL_areThingsSo_140 (lv_at hl 4 rfl) ?_
                  refine lv_iconst (v := 1) hx hb dL_areThingsSo_142 (by decide) ?_
                  refine call_W (w1 := fun _ => wX9 z h a b c9 hh hh1 d0 d1 d2 d3 t9 t91 r9 r91 r92 r93 v) len9 (fun _ => len9) (rV (As := [.int (nI k77), .int 1]) (rest := []) ⟨hx, hb, hml, hown, hts⟩ (c_X9_reel l D z tM tS h a b c9 hh hh1 d0 d1 d2 d3 t9 t91 r9 r91 r92 r93 v (nI k77) 1 (by assumption) (by assumption) H.size) (cwV 2 hts gL_areThingsSo_X9_reel rfl rfl rfl (by decide +kernel) ⟨Nat.le_trans (by decide) hRf, Nat.le_trans (by decide) hRl⟩) (ev_ok tM tS) (e_go (ev_ok tM tS) hE hD hS hA (List.range 128) (gN len9)) hK hP hD (List.range 128) nd128 (gN len9) (va_recv hK hP (ci := 9) (q0 := 0) rfl rfl) rfl hl.1 rfl (Nat.le_of_ble_eq_true rfl) dL_areThingsSo_143 ⟨Nat.zero_le _, Nat.zero_le _⟩) hK hP hD hS hA (fun zr zu H locs hw hP hD hS => ?_)
                  have hw : zr = (f_X9_reel v (nI k77) 1) := hw
                  subst hw
                  have hP : va_P D vwCl (wX9 z h a b c9 hh hh1 d0 d1 d2 d3 t9 t91 r9 r91 r92 r93 v) H := hP
                  have hD : va_D A (wX9 z h a b c9 hh hh1 d0 d1 d2 d3 t9 t91 r9 r91 r92 r93 v) := hD
                  refine lv_istore (lv' := [(7, .int (f_X9_reel v (nI k77) 1)), (6, .int (f_X9_reel v (nI k77) 2)), (1, .int (q77.1 + 0)), (2, .int (q77.2.1 + 0)), (5, .int (f_X9_reel v (nI k77) 0)), (4, .int (nI k77)), (3, .int q77.2.2), (0, .ref h)]) hx hb dL_areThingsSo_146 hl (by decide) rfl (fun ls hl => ?_)
                  refine lv_iconst (v := 0) hx hb dL_areThingsSo_148 (by decide) ?_
                  refine lv_istore (lv' := [(8, .int 0), (7, .int (f_X9_reel v (nI k77) 1)), (6, .int (f_X9_reel v (nI k77) 2)), (1, .int (q77.1 + 0)), (2, .int (q77.2.1 + 0)), (5, .int (f_X9_reel v (nI k77) 0)), (4, .int (nI k77)), (3, .int q77.2.2), (0, .ref h)]) hx hb dL_areThingsSo_149 hl (by decide) rfl (fun ls hl => ?_)
                  obtain ⟨w9, m9, hw9, hm9, ew9, em9⟩ := reel_wm hW hM (by omega) c_14
                  rw [ew9, em9] at hl
                  refine things_while hx hb (w := w9) (m9 := m9) hw9 hm9 (lv_sub hl [0, 1, 2, 5, 6, 7, 4, 3, 8] rfl) (fun ls x6 x7 hl => ?_)
                  rw [show nI (WH 200 w9 m9) = WHI (f_X9_reel v (nI k77) 2) (f_X9_reel v (nI k77) 1) from by rw [ew9, em9, WHI_n hw9 hm9]] at hl
                  refine lv_iload_n hx hb dL_areThingsSo_201 rfl (lv_at hl 5 rfl) ?_
                  refine lv_if_eq (tgt := 295) hx hb dL_areThingsSo_202 (by decide) (fun c_15 => ?_) (fun c_15 => ?_)
                  · refine lv_iconst (v := 0) hx hb dL_areThingsSo_295 (by decide) ?_
                    refine lv_istore_n (lv' := [(3, .int 0), (8, .int (WHI (f_X9_reel v (nI k77) 2) (f_X9_reel v (nI k77) 1))), (7, .int x7), (6, .int x6), (5, .int (f_X9_reel v (nI k77) 0)), (4, .int (nI k77)), (2, .int (q77.2.1 + 0)), (1, .int (q77.1 + 0)), (0, .ref h)]) hx hb dL_areThingsSo_296 rfl hl (by decide) rfl (fun ls hl => ?_)
                    refine lv_iinc (v := nI (k77 + 1)) (lv' := [(4, .int (nI (k77 + 1))), (3, .int 0), (8, .int (WHI (f_X9_reel v (nI k77) 2) (f_X9_reel v (nI k77) 1))), (7, .int x7), (6, .int x6), (5, .int (f_X9_reel v (nI k77) 0)), (2, .int (q77.2.1 + 0)), (1, .int (q77.1 + 0)), (0, .ref h)]) hx hb dL_areThingsSo_297 hl (k := 5) rfl (nI_add k77 1) (by decide) rfl (fun ls hl => ?_)
                    refine lv_goto (tgt := 77) hx hb dL_areThingsSo_300 (by decide) ?_
                    exact ih77 (k77 + 1) ((q77.1 + 0), (q77.2.1 + 0), 0) (by rw [lp_L_areThingsSo_77_s, ← hq77]; unfold st_L_areThingsSo_77; rw [if_neg c_12, if_neg c_13, if_pos c_15]; try rfl) (by omega) (by omega) _ _ _ hP hD hS (lv_sub hl [0, 1, 6, 7, 8] rfl)
                  · refine lv_iload hx hb dL_areThingsSo_205 (lv_at hl 3 rfl) ?_
                    refine lv_iconst (v := 5) hx hb dL_areThingsSo_207 (by decide) ?_
                    refine lv_icmp_ge (tgt := 295) hx hb dL_areThingsSo_208 (by decide) (fun c_16 => ?_) (fun c_16 => ?_)
                    · refine lv_iconst (v := 0) hx hb dL_areThingsSo_295 (by decide) ?_
                      refine lv_istore_n (lv' := [(3, .int 0), (8, .int (WHI (f_X9_reel v (nI k77) 2) (f_X9_reel v (nI k77) 1))), (7, .int x7), (6, .int x6), (5, .int (f_X9_reel v (nI k77) 0)), (4, .int (nI k77)), (2, .int (q77.2.1 + 0)), (1, .int (q77.1 + 0)), (0, .ref h)]) hx hb dL_areThingsSo_296 rfl hl (by decide) rfl (fun ls hl => ?_)
                      refine lv_iinc (v := nI (k77 + 1)) (lv' := [(4, .int (nI (k77 + 1))), (3, .int 0), (8, .int (WHI (f_X9_reel v (nI k77) 2) (f_X9_reel v (nI k77) 1))), (7, .int x7), (6, .int x6), (5, .int (f_X9_reel v (nI k77) 0)), (2, .int (q77.2.1 + 0)), (1, .int (q77.1 + 0)), (0, .ref h)]) hx hb dL_areThingsSo_297 hl (k := 5) rfl (nI_add k77 1) (by decide) rfl (fun ls hl => ?_)
                      refine lv_goto (tgt := 77) hx hb dL_areThingsSo_300 (by decide) ?_
                      exact ih77 (k77 + 1) ((q77.1 + 0), (q77.2.1 + 0), 0) (by rw [lp_L_areThingsSo_77_s, ← hq77]; unfold st_L_areThingsSo_77; rw [if_neg c_12, if_neg c_13, if_neg c_15, if_pos c_16]; try rfl) (by omega) (by omega) _ _ _ hP hD hS (lv_sub hl [0, 1, 6, 7, 8] rfl)
                    · refine lv_aload_n hx hb dL_areThingsSo_211 rfl (lv_at hl 8 rfl) ?_
                      refine lv_iload hx hb dL_areThingsSo_212 (lv_at hl 4 rfl) ?_
                      refine lv_iconst (v := 1) hx hb dL_areThingsSo_214 (by decide) ?_
                      refine call_W (w1 := fun _ => wX9 z h a b c9 hh hh1 d0 d1 d2 d3 t9 t91 r9 r91 r92 r93 v) len9 (fun _ => len9) (rV (As := [.int (nI k77), .int 1]) (rest := []) ⟨hx, hb, hml, hown, hts⟩ (c_X9_reel l D z tM tS h a b c9 hh hh1 d0 d1 d2 d3 t9 t91 r9 r91 r92 r93 v (nI k77) 1 (by assumption) (by assumption) H.size) (cwV 2 hts gL_areThingsSo_X9_reel rfl rfl rfl (by decide +kernel) ⟨Nat.le_trans (by decide) hRf, Nat.le_trans (by decide) hRl⟩) (ev_ok tM tS) (e_go (ev_ok tM tS) hE hD hS hA (List.range 128) (gN len9)) hK hP hD (List.range 128) nd128 (gN len9) (va_recv hK hP (ci := 9) (q0 := 0) rfl rfl) rfl hl.1 rfl (Nat.le_of_ble_eq_true rfl) dL_areThingsSo_215 ⟨Nat.zero_le _, Nat.zero_le _⟩) hK hP hD hS hA (fun zr zu H locs hw hP hD hS => ?_)
                      have hw : zr = (f_X9_reel v (nI k77) 1) := hw
                      subst hw
                      have hP : va_P D vwCl (wX9 z h a b c9 hh hh1 d0 d1 d2 d3 t9 t91 r9 r91 r92 r93 v) H := hP
                      have hD : va_D A (wX9 z h a b c9 hh hh1 d0 d1 d2 d3 t9 t91 r9 r91 r92 r93 v) := hD
                      refine lv_iconst (v := 3) hx hb dL_areThingsSo_218 (by decide) ?_
                      refine lv_icmp_lt (tgt := 295) hx hb dL_areThingsSo_219 (by decide) (fun c_17 => ?_) (fun c_17 => ?_)
                      · refine lv_iconst (v := 0) hx hb dL_areThingsSo_295 (by decide) ?_
                        refine lv_istore_n (lv' := [(3, .int 0), (8, .int (WHI (f_X9_reel v (nI k77) 2) (f_X9_reel v (nI k77) 1))), (7, .int x7), (6, .int x6), (5, .int (f_X9_reel v (nI k77) 0)), (4, .int (nI k77)), (2, .int (q77.2.1 + 0)), (1, .int (q77.1 + 0)), (0, .ref h)]) hx hb dL_areThingsSo_296 rfl hl (by decide) rfl (fun ls hl => ?_)
                        refine lv_iinc (v := nI (k77 + 1)) (lv' := [(4, .int (nI (k77 + 1))), (3, .int 0), (8, .int (WHI (f_X9_reel v (nI k77) 2) (f_X9_reel v (nI k77) 1))), (7, .int x7), (6, .int x6), (5, .int (f_X9_reel v (nI k77) 0)), (2, .int (q77.2.1 + 0)), (1, .int (q77.1 + 0)), (0, .ref h)]) hx hb dL_areThingsSo_297 hl (k := 5) rfl (nI_add k77 1) (by decide) rfl (fun ls hl => ?_)
                        refine lv_goto (tgt := 77) hx hb dL_areThingsSo_300 (by decide) ?_
                        exact ih77 (k77 + 1) ((q77.1 + 0), (q77.2.1 + 0), 0) (by rw [lp_L_areThingsSo_77_s, ← hq77]; unfold st_L_areThingsSo_77; rw [if_neg c_12, if_neg c_13, if_neg c_15, if_neg c_16, if_pos c_17]; try rfl) (by omega) (by omega) _ _ _ hP hD hS (lv_sub hl [0, 1, 6, 7, 8] rfl)
                      · refine lv_aload_n hx hb dL_areThingsSo_222 rfl (lv_at hl 8 rfl) ?_
                        refine lv_iload hx hb dL_areThingsSo_223 (lv_at hl 4 rfl) ?_
                        refine lv_iconst (v := 1) hx hb dL_areThingsSo_225 (by decide) ?_
                        refine call_W (w1 := fun _ => wX9 z h a b c9 hh hh1 d0 d1 d2 d3 t9 t91 r9 r91 r92 r93 v) len9 (fun _ => len9) (rV (As := [.int (nI k77), .int 1]) (rest := []) ⟨hx, hb, hml, hown, hts⟩ (c_X9_reel l D z tM tS h a b c9 hh hh1 d0 d1 d2 d3 t9 t91 r9 r91 r92 r93 v (nI k77) 1 (by assumption) (by assumption) H.size) (cwV 2 hts gL_areThingsSo_X9_reel rfl rfl rfl (by decide +kernel) ⟨Nat.le_trans (by decide) hRf, Nat.le_trans (by decide) hRl⟩) (ev_ok tM tS) (e_go (ev_ok tM tS) hE hD hS hA (List.range 128) (gN len9)) hK hP hD (List.range 128) nd128 (gN len9) (va_recv hK hP (ci := 9) (q0 := 0) rfl rfl) rfl hl.1 rfl (Nat.le_of_ble_eq_true rfl) dL_areThingsSo_226 ⟨Nat.zero_le _, Nat.zero_le _⟩) hK hP hD hS hA (fun zr zu H locs hw hP hD hS => ?_)
                        have hw : zr = (f_X9_reel v (nI k77) 1) := hw
                        subst hw
                        have hP : va_P D vwCl (wX9 z h a b c9 hh hh1 d0 d1 d2 d3 t9 t91 r9 r91 r92 r93 v) H := hP
                        have hD : va_D A (wX9 z h a b c9 hh hh1 d0 d1 d2 d3 t9 t91 r9 r91 r92 r93 v) := hD
                        refine lv_aload_n hx hb dL_areThingsSo_229 rfl (lv_at hl 8 rfl) ?_
                        refine lv_iload hx hb dL_areThingsSo_230 (lv_at hl 4 rfl) ?_
                        refine lv_iconst (v := 3) hx hb dL_areThingsSo_232 (by decide) ?_
                        refine call_W (w1 := fun _ => wX9 z h a b c9 hh hh1 d0 d1 d2 d3 t9 t91 r9 r91 r92 r93 v) len9 (fun _ => len9) (rV (As := [.int (nI k77), .int 3]) (rest := [.int (f_X9_reel v (nI k77) 1)]) ⟨hx, hb, hml, hown, hts⟩ (c_X9_reel l D z tM tS h a b c9 hh hh1 d0 d1 d2 d3 t9 t91 r9 r91 r92 r93 v (nI k77) 3 (by assumption) (by assumption) H.size) (cwV 2 hts gL_areThingsSo_X9_reel rfl rfl rfl (by decide +kernel) ⟨Nat.le_trans (by decide) hRf, Nat.le_trans (by decide) hRl⟩) (ev_ok tM tS) (e_go (ev_ok tM tS) hE hD hS hA (List.range 128) (gN len9)) hK hP hD (List.range 128) nd128 (gN len9) (va_recv hK hP (ci := 9) (q0 := 0) rfl rfl) rfl hl.1 rfl (Nat.le_of_ble_eq_true rfl) dL_areThingsSo_233 ⟨Nat.zero_le _, Nat.zero_le _⟩) hK hP hD hS hA (fun zr zu H locs hw hP hD hS => ?_)
                        have hw : zr = (f_X9_reel v (nI k77) 3) := hw
                        subst hw
                        have hP : va_P D vwCl (wX9 z h a b c9 hh hh1 d0 d1 d2 d3 t9 t91 r9 r91 r92 r93 v) H := hP
                        have hD : va_D A (wX9 z h a b c9 hh hh1 d0 d1 d2 d3 t9 t91 r9 r91 r92 r93 v) := hD
                        refine lv_iadd hx hb dL_areThingsSo_236 ?_
                        refine lv_bipush (v := 8) hx hb dL_areThingsSo_237 (by decide) ?_
                        refine lv_iload hx hb dL_areThingsSo_239 (lv_at hl 4 rfl) ?_
                        refine lv_iadd hx hb dL_areThingsSo_241 ?_
                        refine lv_icmp_ne (tgt := 295) hx hb dL_areThingsSo_242 (by decide) (fun c_18 => ?_) (fun c_18 => ?_)
                        · refine lv_iconst (v := 0) hx hb dL_areThingsSo_295 (by decide) ?_
                          refine lv_istore_n (lv' := [(3, .int 0), (8, .int (WHI (f_X9_reel v (nI k77) 2) (f_X9_reel v (nI k77) 1))), (7, .int x7), (6, .int x6), (5, .int (f_X9_reel v (nI k77) 0)), (4, .int (nI k77)), (2, .int (q77.2.1 + 0)), (1, .int (q77.1 + 0)), (0, .ref h)]) hx hb dL_areThingsSo_296 rfl hl (by decide) rfl (fun ls hl => ?_)
                          refine lv_iinc (v := nI (k77 + 1)) (lv' := [(4, .int (nI (k77 + 1))), (3, .int 0), (8, .int (WHI (f_X9_reel v (nI k77) 2) (f_X9_reel v (nI k77) 1))), (7, .int x7), (6, .int x6), (5, .int (f_X9_reel v (nI k77) 0)), (2, .int (q77.2.1 + 0)), (1, .int (q77.1 + 0)), (0, .ref h)]) hx hb dL_areThingsSo_297 hl (k := 5) rfl (nI_add k77 1) (by decide) rfl (fun ls hl => ?_)
                          refine lv_goto (tgt := 77) hx hb dL_areThingsSo_300 (by decide) ?_
                          exact ih77 (k77 + 1) ((q77.1 + 0), (q77.2.1 + 0), 0) (by rw [lp_L_areThingsSo_77_s, ← hq77]; unfold st_L_areThingsSo_77; rw [if_neg c_12, if_neg c_13, if_neg c_15, if_neg c_16, if_neg c_17, if_neg c_18]; try rfl) (by omega) (by omega) _ _ _ hP hD hS (lv_sub hl [0, 1, 6, 7, 8] rfl)
                        · refine lv_aload_n hx hb dL_areThingsSo_245 rfl (lv_at hl 8 rfl) ?_
                          refine lv_iload hx hb dL_areThingsSo_246 (lv_at hl 4 rfl) ?_
                          refine lv_iconst (v := 2) hx hb dL_areThingsSo_248 (by decide) ?_
                          refine call_W (w1 := fun _ => wX9 z h a b c9 hh hh1 d0 d1 d2 d3 t9 t91 r9 r91 r92 r93 v) len9 (fun _ => len9) (rV (As := [.int (nI k77), .int 2]) (rest := []) ⟨hx, hb, hml, hown, hts⟩ (c_X9_reel l D z tM tS h a b c9 hh hh1 d0 d1 d2 d3 t9 t91 r9 r91 r92 r93 v (nI k77) 2 (by assumption) (by assumption) H.size) (cwV 2 hts gL_areThingsSo_X9_reel rfl rfl rfl (by decide +kernel) ⟨Nat.le_trans (by decide) hRf, Nat.le_trans (by decide) hRl⟩) (ev_ok tM tS) (e_go (ev_ok tM tS) hE hD hS hA (List.range 128) (gN len9)) hK hP hD (List.range 128) nd128 (gN len9) (va_recv hK hP (ci := 9) (q0 := 0) rfl rfl) rfl hl.1 rfl (Nat.le_of_ble_eq_true rfl) dL_areThingsSo_249 ⟨Nat.zero_le _, Nat.zero_le _⟩) hK hP hD hS hA (fun zr zu H locs hw hP hD hS => ?_)
                          have hw : zr = (f_X9_reel v (nI k77) 2) := hw
                          subst hw
                          have hP : va_P D vwCl (wX9 z h a b c9 hh hh1 d0 d1 d2 d3 t9 t91 r9 r91 r92 r93 v) H := hP
                          have hD : va_D A (wX9 z h a b c9 hh hh1 d0 d1 d2 d3 t9 t91 r9 r91 r92 r93 v) := hD
                          refine lv_if_lt (tgt := 295) hx hb dL_areThingsSo_252 (by decide) (fun c_19 => ?_) (fun c_19 => ?_)
                          · refine lv_iconst (v := 0) hx hb dL_areThingsSo_295 (by decide) ?_
                            refine lv_istore_n (lv' := [(3, .int 0), (8, .int (WHI (f_X9_reel v (nI k77) 2) (f_X9_reel v (nI k77) 1))), (7, .int x7), (6, .int x6), (5, .int (f_X9_reel v (nI k77) 0)), (4, .int (nI k77)), (2, .int (q77.2.1 + 0)), (1, .int (q77.1 + 0)), (0, .ref h)]) hx hb dL_areThingsSo_296 rfl hl (by decide) rfl (fun ls hl => ?_)
                            refine lv_iinc (v := nI (k77 + 1)) (lv' := [(4, .int (nI (k77 + 1))), (3, .int 0), (8, .int (WHI (f_X9_reel v (nI k77) 2) (f_X9_reel v (nI k77) 1))), (7, .int x7), (6, .int x6), (5, .int (f_X9_reel v (nI k77) 0)), (2, .int (q77.2.1 + 0)), (1, .int (q77.1 + 0)), (0, .ref h)]) hx hb dL_areThingsSo_297 hl (k := 5) rfl (nI_add k77 1) (by decide) rfl (fun ls hl => ?_)
                            refine lv_goto (tgt := 77) hx hb dL_areThingsSo_300 (by decide) ?_
                            exact ih77 (k77 + 1) ((q77.1 + 0), (q77.2.1 + 0), 0) (by rw [lp_L_areThingsSo_77_s, ← hq77]; unfold st_L_areThingsSo_77; rw [if_neg c_12, if_neg c_13, if_neg c_15, if_neg c_16, if_neg c_17, if_pos c_18, if_pos c_19]; try rfl) (by omega) (by omega) _ _ _ hP hD hS (lv_sub hl [0, 1, 6, 7, 8] rfl)
                          · refine lv_aload_n hx hb dL_areThingsSo_255 rfl (lv_at hl 8 rfl) ?_
                            refine lv_iload hx hb dL_areThingsSo_256 (lv_at hl 4 rfl) ?_
                            refine lv_iconst (v := 2) hx hb dL_areThingsSo_258 (by decide) ?_
                            refine call_W (w1 := fun _ => wX9 z h a b c9 hh hh1 d0 d1 d2 d3 t9 t91 r9 r91 r92 r93 v) len9 (fun _ => len9) (rV (As := [.int (nI k77), .int 2]) (rest := []) ⟨hx, hb, hml, hown, hts⟩ (c_X9_reel l D z tM tS h a b c9 hh hh1 d0 d1 d2 d3 t9 t91 r9 r91 r92 r93 v (nI k77) 2 (by assumption) (by assumption) H.size) (cwV 2 hts gL_areThingsSo_X9_reel rfl rfl rfl (by decide +kernel) ⟨Nat.le_trans (by decide) hRf, Nat.le_trans (by decide) hRl⟩) (ev_ok tM tS) (e_go (ev_ok tM tS) hE hD hS hA (List.range 128) (gN len9)) hK hP hD (List.range 128) nd128 (gN len9) (va_recv hK hP (ci := 9) (q0 := 0) rfl rfl) rfl hl.1 rfl (Nat.le_of_ble_eq_true rfl) dL_areThingsSo_259 ⟨Nat.zero_le _, Nat.zero_le _⟩) hK hP hD hS hA (fun zr zu H locs hw hP hD hS => ?_)
                            have hw : zr = (f_X9_reel v (nI k77) 2) := hw
                            subst hw
                            have hP : va_P D vwCl (wX9 z h a b c9 hh hh1 d0 d1 d2 d3 t9 t91 r9 r91 r92 r93 v) H := hP
                            have hD : va_D A (wX9 z h a b c9 hh hh1 d0 d1 d2 d3 t9 t91 r9 r91 r92 r93 v) := hD
                            refine lv_bipush (v := 40) hx hb dL_areThingsSo_262 (by decide) ?_
                            refine lv_icmp_ge (tgt := 295) hx hb dL_areThingsSo_264 (by decide) (fun c_20 => ?_) (fun c_20 => ?_)
                            · refine lv_iconst (v := 0) hx hb dL_areThingsSo_295 (by decide) ?_
                              refine lv_istore_n (lv' := [(3, .int 0), (8, .int (WHI (f_X9_reel v (nI k77) 2) (f_X9_reel v (nI k77) 1))), (7, .int x7), (6, .int x6), (5, .int (f_X9_reel v (nI k77) 0)), (4, .int (nI k77)), (2, .int (q77.2.1 + 0)), (1, .int (q77.1 + 0)), (0, .ref h)]) hx hb dL_areThingsSo_296 rfl hl (by decide) rfl (fun ls hl => ?_)
                              refine lv_iinc (v := nI (k77 + 1)) (lv' := [(4, .int (nI (k77 + 1))), (3, .int 0), (8, .int (WHI (f_X9_reel v (nI k77) 2) (f_X9_reel v (nI k77) 1))), (7, .int x7), (6, .int x6), (5, .int (f_X9_reel v (nI k77) 0)), (2, .int (q77.2.1 + 0)), (1, .int (q77.1 + 0)), (0, .ref h)]) hx hb dL_areThingsSo_297 hl (k := 5) rfl (nI_add k77 1) (by decide) rfl (fun ls hl => ?_)
                              refine lv_goto (tgt := 77) hx hb dL_areThingsSo_300 (by decide) ?_
                              exact ih77 (k77 + 1) ((q77.1 + 0), (q77.2.1 + 0), 0) (by rw [lp_L_areThingsSo_77_s, ← hq77]; unfold st_L_areThingsSo_77; rw [if_neg c_12, if_neg c_13, if_neg c_15, if_neg c_16, if_neg c_17, if_pos c_18, if_neg c_19, if_pos c_20]; try rfl) (by omega) (by omega) _ _ _ hP hD hS (lv_sub hl [0, 1, 6, 7, 8] rfl)
                            · refine lv_aload_n hx hb dL_areThingsSo_267 rfl (lv_at hl 8 rfl) ?_
                              refine lv_iload hx hb dL_areThingsSo_268 (lv_at hl 4 rfl) ?_
                              refine lv_iconst (v := 4) hx hb dL_areThingsSo_270 (by decide) ?_
                              refine call_W (w1 := fun _ => wX9 z h a b c9 hh hh1 d0 d1 d2 d3 t9 t91 r9 r91 r92 r93 v) len9 (fun _ => len9) (rV (As := [.int (nI k77), .int 4]) (rest := []) ⟨hx, hb, hml, hown, hts⟩ (c_X9_reel l D z tM tS h a b c9 hh hh1 d0 d1 d2 d3 t9 t91 r9 r91 r92 r93 v (nI k77) 4 (by assumption) (by assumption) H.size) (cwV 2 hts gL_areThingsSo_X9_reel rfl rfl rfl (by decide +kernel) ⟨Nat.le_trans (by decide) hRf, Nat.le_trans (by decide) hRl⟩) (ev_ok tM tS) (e_go (ev_ok tM tS) hE hD hS hA (List.range 128) (gN len9)) hK hP hD (List.range 128) nd128 (gN len9) (va_recv hK hP (ci := 9) (q0 := 0) rfl rfl) rfl hl.1 rfl (Nat.le_of_ble_eq_true rfl) dL_areThingsSo_271 ⟨Nat.zero_le _, Nat.zero_le _⟩) hK hP hD hS hA (fun zr zu H locs hw hP hD hS => ?_)
                              have hw : zr = (f_X9_reel v (nI k77) 4) := hw
                              subst hw
                              have hP : va_P D vwCl (wX9 z h a b c9 hh hh1 d0 d1 d2 d3 t9 t91 r9 r91 r92 r93 v) H := hP
                              have hD : va_D A (wX9 z h a b c9 hh hh1 d0 d1 d2 d3 t9 t91 r9 r91 r92 r93 v) := hD
                              refine lv_bipush (v := 32) hx hb dL_areThingsSo_274 (by decide) ?_
                              refine lv_icmp_ge (tgt := 295) hx hb dL_areThingsSo_276 (by decide) (fun c_21 => ?_) (fun c_21 => ?_)
                              · refine lv_iconst (v := 0) hx hb dL_areThingsSo_295 (by decide) ?_
                                refine lv_istore_n (lv' := [(3, .int 0), (8, .int (WHI (f_X9_reel v (nI k77) 2) (f_X9_reel v (nI k77) 1))), (7, .int x7), (6, .int x6), (5, .int (f_X9_reel v (nI k77) 0)), (4, .int (nI k77)), (2, .int (q77.2.1 + 0)), (1, .int (q77.1 + 0)), (0, .ref h)]) hx hb dL_areThingsSo_296 rfl hl (by decide) rfl (fun ls hl => ?_)
                                refine lv_iinc (v := nI (k77 + 1)) (lv' := [(4, .int (nI (k77 + 1))), (3, .int 0), (8, .int (WHI (f_X9_reel v (nI k77) 2) (f_X9_reel v (nI k77) 1))), (7, .int x7), (6, .int x6), (5, .int (f_X9_reel v (nI k77) 0)), (2, .int (q77.2.1 + 0)), (1, .int (q77.1 + 0)), (0, .ref h)]) hx hb dL_areThingsSo_297 hl (k := 5) rfl (nI_add k77 1) (by decide) rfl (fun ls hl => ?_)
                                refine lv_goto (tgt := 77) hx hb dL_areThingsSo_300 (by decide) ?_
                                exact ih77 (k77 + 1) ((q77.1 + 0), (q77.2.1 + 0), 0) (by rw [lp_L_areThingsSo_77_s, ← hq77]; unfold st_L_areThingsSo_77; rw [if_neg c_12, if_neg c_13, if_neg c_15, if_neg c_16, if_neg c_17, if_pos c_18, if_neg c_19, if_neg c_20, if_pos c_21]; try rfl) (by omega) (by omega) _ _ _ hP hD hS (lv_sub hl [0, 1, 6, 7, 8] rfl)
                              · refine lv_aload_n hx hb dL_areThingsSo_279 rfl (lv_at hl 8 rfl) ?_
                                refine lv_iload hx hb dL_areThingsSo_280 (lv_at hl 4 rfl) ?_
                                refine lv_iconst (v := 5) hx hb dL_areThingsSo_282 (by decide) ?_
                                refine call_W (w1 := fun _ => wX9 z h a b c9 hh hh1 d0 d1 d2 d3 t9 t91 r9 r91 r92 r93 v) len9 (fun _ => len9) (rV (As := [.int (nI k77), .int 5]) (rest := []) ⟨hx, hb, hml, hown, hts⟩ (c_X9_reel l D z tM tS h a b c9 hh hh1 d0 d1 d2 d3 t9 t91 r9 r91 r92 r93 v (nI k77) 5 (by assumption) (by assumption) H.size) (cwV 2 hts gL_areThingsSo_X9_reel rfl rfl rfl (by decide +kernel) ⟨Nat.le_trans (by decide) hRf, Nat.le_trans (by decide) hRl⟩) (ev_ok tM tS) (e_go (ev_ok tM tS) hE hD hS hA (List.range 128) (gN len9)) hK hP hD (List.range 128) nd128 (gN len9) (va_recv hK hP (ci := 9) (q0 := 0) rfl rfl) rfl hl.1 rfl (Nat.le_of_ble_eq_true rfl) dL_areThingsSo_283 ⟨Nat.zero_le _, Nat.zero_le _⟩) hK hP hD hS hA (fun zr zu H locs hw hP hD hS => ?_)
                                have hw : zr = (f_X9_reel v (nI k77) 5) := hw
                                subst hw
                                have hP : va_P D vwCl (wX9 z h a b c9 hh hh1 d0 d1 d2 d3 t9 t91 r9 r91 r92 r93 v) H := hP
                                have hD : va_D A (wX9 z h a b c9 hh hh1 d0 d1 d2 d3 t9 t91 r9 r91 r92 r93 v) := hD
                                refine lv_iload hx hb dL_areThingsSo_286 (lv_at hl 0 rfl) ?_
                                refine lv_icmp_ne (tgt := 295) hx hb dL_areThingsSo_288 (by decide) (fun c_22 => ?_) (fun c_22 => ?_)
                                · refine lv_iconst (v := 0) hx hb dL_areThingsSo_295 (by decide) ?_
                                  refine lv_istore_n (lv' := [(3, .int 0), (8, .int (WHI (f_X9_reel v (nI k77) 2) (f_X9_reel v (nI k77) 1))), (7, .int x7), (6, .int x6), (5, .int (f_X9_reel v (nI k77) 0)), (4, .int (nI k77)), (2, .int (q77.2.1 + 0)), (1, .int (q77.1 + 0)), (0, .ref h)]) hx hb dL_areThingsSo_296 rfl hl (by decide) rfl (fun ls hl => ?_)
                                  refine lv_iinc (v := nI (k77 + 1)) (lv' := [(4, .int (nI (k77 + 1))), (3, .int 0), (8, .int (WHI (f_X9_reel v (nI k77) 2) (f_X9_reel v (nI k77) 1))), (7, .int x7), (6, .int x6), (5, .int (f_X9_reel v (nI k77) 0)), (2, .int (q77.2.1 + 0)), (1, .int (q77.1 + 0)), (0, .ref h)]) hx hb dL_areThingsSo_297 hl (k := 5) rfl (nI_add k77 1) (by decide) rfl (fun ls hl => ?_)
                                  refine lv_goto (tgt := 77) hx hb dL_areThingsSo_300 (by decide) ?_
                                  exact ih77 (k77 + 1) ((q77.1 + 0), (q77.2.1 + 0), 0) (by rw [lp_L_areThingsSo_77_s, ← hq77]; unfold st_L_areThingsSo_77; rw [if_neg c_12, if_neg c_13, if_neg c_15, if_neg c_16, if_neg c_17, if_pos c_18, if_neg c_19, if_neg c_20, if_neg c_21, if_neg c_22]; try rfl) (by omega) (by omega) _ _ _ hP hD hS (lv_sub hl [0, 1, 6, 7, 8] rfl)
                                · refine lv_iconst (v := 1) hx hb dL_areThingsSo_291 (by decide) ?_
                                  refine lv_goto (tgt := 296) hx hb dL_areThingsSo_292 (by decide) ?_
                                  refine lv_istore_n (lv' := [(3, .int 1), (8, .int (WHI (f_X9_reel v (nI k77) 2) (f_X9_reel v (nI k77) 1))), (7, .int x7), (6, .int x6), (5, .int (f_X9_reel v (nI k77) 0)), (4, .int (nI k77)), (2, .int (q77.2.1 + 0)), (1, .int (q77.1 + 0)), (0, .ref h)]) hx hb dL_areThingsSo_296 rfl hl (by decide) rfl (fun ls hl => ?_)
                                  refine lv_iinc (v := nI (k77 + 1)) (lv' := [(4, .int (nI (k77 + 1))), (3, .int 1), (8, .int (WHI (f_X9_reel v (nI k77) 2) (f_X9_reel v (nI k77) 1))), (7, .int x7), (6, .int x6), (5, .int (f_X9_reel v (nI k77) 0)), (2, .int (q77.2.1 + 0)), (1, .int (q77.1 + 0)), (0, .ref h)]) hx hb dL_areThingsSo_297 hl (k := 5) rfl (nI_add k77 1) (by decide) rfl (fun ls hl => ?_)
                                  refine lv_goto (tgt := 77) hx hb dL_areThingsSo_300 (by decide) ?_
                                  exact ih77 (k77 + 1) ((q77.1 + 0), (q77.2.1 + 0), 1) (by rw [lp_L_areThingsSo_77_s, ← hq77]; unfold st_L_areThingsSo_77; rw [if_neg c_12, if_neg c_13, if_neg c_15, if_neg c_16, if_neg c_17, if_pos c_18, if_neg c_19, if_neg c_20, if_neg c_21, if_pos c_22]; try rfl) (by omega) (by omega) _ _ _ hP hD hS (lv_sub hl [0, 1, 6, 7, 8] rfl)
                · refine lv_iconst (v := 1) hx hb dL_areThingsSo_116 (by decide) ?_
                  refine lv_goto (tgt := 121) hx hb dL_areThingsSo_117 (by decide) ?_
                  refine lv_iadd hx hb dL_areThingsSo_121 ?_
                  refine lv_istore_n (lv' := [(1, .int (q77.1 + 1)), (2, .int (q77.2.1 + 0)), (5, .int (f_X9_reel v (nI k77) 0)), (4, .int (nI k77)), (3, .int q77.2.2), (0, .ref h)]) hx hb dL_areThingsSo_122 rfl hl (by decide) rfl (fun ls hl => ?_)
                  refine lv_iload hx hb dL_areThingsSo_123 (lv_at hl 2 rfl) ?_
                  refine lv_ldc (v := (-10000001)) hx hb hown (hts (.constant RL 53 (-10000001)) (by decide +kernel)) dL_areThingsSo_125 ?_
                  refine lv_icmp_eq (tgt := 297) hx hb dL_areThingsSo_127 (by decide) (fun c_23 => absurd c_23 c_12) (fun c_23 => ?_)
                  refine lv_aload_n hx hb dL_areThingsSo_130 rfl (lv_at hl 5 rfl) ?_
                  refine lv_iload hx hb dL_areThingsSo_131 (lv_at hl 3 rfl) ?_
                  refine lv_iconst (v := 2) hx hb dL_areThingsSo_133 (by decide) ?_
                  refine call_W (w1 := fun _ => wX9 z h a b c9 hh hh1 d0 d1 d2 d3 t9 t91 r9 r91 r92 r93 v) len9 (fun _ => len9) (rV (As := [.int (nI k77), .int 2]) (rest := []) ⟨hx, hb, hml, hown, hts⟩ (c_X9_reel l D z tM tS h a b c9 hh hh1 d0 d1 d2 d3 t9 t91 r9 r91 r92 r93 v (nI k77) 2 (by assumption) (by assumption) H.size) (cwV 2 hts gL_areThingsSo_X9_reel rfl rfl rfl (by decide +kernel) ⟨Nat.le_trans (by decide) hRf, Nat.le_trans (by decide) hRl⟩) (ev_ok tM tS) (e_go (ev_ok tM tS) hE hD hS hA (List.range 128) (gN len9)) hK hP hD (List.range 128) nd128 (gN len9) (va_recv hK hP (ci := 9) (q0 := 0) rfl rfl) rfl hl.1 rfl (Nat.le_of_ble_eq_true rfl) dL_areThingsSo_134 ⟨Nat.zero_le _, Nat.zero_le _⟩) hK hP hD hS hA (fun zr zu H locs hw hP hD hS => ?_)
                  have hw : zr = (f_X9_reel v (nI k77) 2) := hw
                  subst hw
                  have hP : va_P D vwCl (wX9 z h a b c9 hh hh1 d0 d1 d2 d3 t9 t91 r9 r91 r92 r93 v) H := hP
                  have hD : va_D A (wX9 z h a b c9 hh hh1 d0 d1 d2 d3 t9 t91 r9 r91 r92 r93 v) := hD
                  refine lv_istore (lv' := [(6, .int (f_X9_reel v (nI k77) 2)), (1, .int (q77.1 + 1)), (2, .int (q77.2.1 + 0)), (5, .int (f_X9_reel v (nI k77) 0)), (4, .int (nI k77)), (3, .int q77.2.2), (0, .ref h)]) hx hb dL_areThingsSo_137 hl (by decide) rfl (fun ls hl => ?_)
                  refine lv_aload_n hx hb dL_areThingsSo_139 rfl (lv_at hl 6 rfl) ?_
                  refine lv_iload hx hb dL_areThingsSo_140 (lv_at hl 4 rfl) ?_
                  refine lv_iconst (v := 1) hx hb dL_areThingsSo_142 (by decide) ?_
                  refine call_W (w1 := fun _ => wX9 z h a b c9 hh hh1 d0 d1 d2 d3 t9 t91 r9 r91 r92 r93 v) len9 (fun _ => len9) (rV (As := [.int (nI k77), .int 1]) (rest := []) ⟨hx, hb, hml, hown, hts⟩ (c_X9_reel l D z tM tS h a b c9 hh hh1 d0 d1 d2 d3 t9 t91 r9 r91 r92 r93 v (nI k77) 1 (by assumption) (by assumption) H.size) (cwV 2 hts gL_areThingsSo_X9_reel rfl rfl rfl (by decide +kernel) ⟨Nat.le_trans (by decide) hRf, Nat.le_trans (by decide) hRl⟩) (ev_ok tM tS) (e_go (ev_ok tM tS) hE hD hS hA (List.range 128) (gN len9)) hK hP hD (List.range 128) nd128 (gN len9) (va_recv hK hP (ci := 9) (q0 := 0) rfl rfl) rfl hl.1 rfl (Nat.le_of_ble_eq_true rfl) dL_areThingsSo_143 ⟨Nat.zero_le _, Nat.zero_le _⟩) hK hP hD hS hA (fun zr zu H locs hw hP hD hS => ?_)
                  have hw : zr = (f_X9_reel v (nI k77) 1) := hw
                  subst hw
                  have hP : va_P D vwCl (wX9 z h a b c9 hh hh1 d0 d1 d2 d3 t9 t91 r9 r91 r92 r93 v) H := hP
                  have hD : va_D A (wX9 z h a b c9 hh hh1 d0 d1 d2 d3 t9 t91 r9 r91 r92 r93 v) := hD
                  refine lv_istore (lv' := [(7, .int (f_X9_reel v (nI k77) 1)), (6, .int (f_X9_reel v (nI k77) 2)), (1, .int (q77.1 + 1)), (2, .int (q77.2.1 + 0)), (5, .int (f_X9_reel v (nI k77) 0)), (4, .int (nI k77)), (3, .int q77.2.2), (0, .ref h)]) hx hb dL_areThingsSo_146 hl (by decide) rfl (fun ls hl => ?_)
                  refine lv_iconst (v := 0) hx hb dL_areThingsSo_148 (by decide) ?_
                  refine lv_istore (lv' := [(8, .int 0), (7, .int (f_X9_reel v (nI k77) 1)), (6, .int (f_X9_reel v (nI k77) 2)), (1, .int (q77.1 + 1)), (2, .int (q77.2.1 + 0)), (5, .int (f_X9_reel v (nI k77) 0)), (4, .int (nI k77)), (3, .int q77.2.2), (0, .ref h)]) hx hb dL_areThingsSo_149 hl (by decide) rfl (fun ls hl => ?_)
                  obtain ⟨w9, m9, hw9, hm9, ew9, em9⟩ := reel_wm hW hM (by omega) c_23
                  rw [ew9, em9] at hl
                  refine things_while hx hb (w := w9) (m9 := m9) hw9 hm9 (lv_sub hl [0, 1, 2, 5, 6, 7, 4, 3, 8] rfl) (fun ls x6 x7 hl => ?_)
                  rw [show nI (WH 200 w9 m9) = WHI (f_X9_reel v (nI k77) 2) (f_X9_reel v (nI k77) 1) from by rw [ew9, em9, WHI_n hw9 hm9]] at hl
                  refine lv_iload_n hx hb dL_areThingsSo_201 rfl (lv_at hl 5 rfl) ?_
                  refine lv_if_eq (tgt := 295) hx hb dL_areThingsSo_202 (by decide) (fun c_24 => ?_) (fun c_24 => ?_)
                  · refine lv_iconst (v := 0) hx hb dL_areThingsSo_295 (by decide) ?_
                    refine lv_istore_n (lv' := [(3, .int 0), (8, .int (WHI (f_X9_reel v (nI k77) 2) (f_X9_reel v (nI k77) 1))), (7, .int x7), (6, .int x6), (5, .int (f_X9_reel v (nI k77) 0)), (4, .int (nI k77)), (2, .int (q77.2.1 + 0)), (1, .int (q77.1 + 1)), (0, .ref h)]) hx hb dL_areThingsSo_296 rfl hl (by decide) rfl (fun ls hl => ?_)
                    refine lv_iinc (v := nI (k77 + 1)) (lv' := [(4, .int (nI (k77 + 1))), (3, .int 0), (8, .int (WHI (f_X9_reel v (nI k77) 2) (f_X9_reel v (nI k77) 1))), (7, .int x7), (6, .int x6), (5, .int (f_X9_reel v (nI k77) 0)), (2, .int (q77.2.1 + 0)), (1, .int (q77.1 + 1)), (0, .ref h)]) hx hb dL_areThingsSo_297 hl (k := 5) rfl (nI_add k77 1) (by decide) rfl (fun ls hl => ?_)
                    refine lv_goto (tgt := 77) hx hb dL_areThingsSo_300 (by decide) ?_
                    exact ih77 (k77 + 1) ((q77.1 + 1), (q77.2.1 + 0), 0) (by rw [lp_L_areThingsSo_77_s, ← hq77]; unfold st_L_areThingsSo_77; rw [if_neg c_12, if_pos c_13, if_pos c_24]; try rfl) (by omega) (by omega) _ _ _ hP hD hS (lv_sub hl [0, 1, 6, 7, 8] rfl)
                  · refine lv_iload hx hb dL_areThingsSo_205 (lv_at hl 3 rfl) ?_
                    refine lv_iconst (v := 5) hx hb dL_areThingsSo_207 (by decide) ?_
                    refine lv_icmp_ge (tgt := 295) hx hb dL_areThingsSo_208 (by decide) (fun c_25 => ?_) (fun c_25 => ?_)
                    · refine lv_iconst (v := 0) hx hb dL_areThingsSo_295 (by decide) ?_
                      refine lv_istore_n (lv' := [(3, .int 0), (8, .int (WHI (f_X9_reel v (nI k77) 2) (f_X9_reel v (nI k77) 1))), (7, .int x7), (6, .int x6), (5, .int (f_X9_reel v (nI k77) 0)), (4, .int (nI k77)), (2, .int (q77.2.1 + 0)), (1, .int (q77.1 + 1)), (0, .ref h)]) hx hb dL_areThingsSo_296 rfl hl (by decide) rfl (fun ls hl => ?_)
                      refine lv_iinc (v := nI (k77 + 1)) (lv' := [(4, .int (nI (k77 + 1))), (3, .int 0), (8, .int (WHI (f_X9_reel v (nI k77) 2) (f_X9_reel v (nI k77) 1))), (7, .int x7), (6, .int x6), (5, .int (f_X9_reel v (nI k77) 0)), (2, .int (q77.2.1 + 0)), (1, .int (q77.1 + 1)), (0, .ref h)]) hx hb dL_areThingsSo_297 hl (k := 5) rfl (nI_add k77 1) (by decide) rfl (fun ls hl => ?_)
                      refine lv_goto (tgt := 77) hx hb dL_areThingsSo_300 (by decide) ?_
                      exact ih77 (k77 + 1) ((q77.1 + 1), (q77.2.1 + 0), 0) (by rw [lp_L_areThingsSo_77_s, ← hq77]; unfold st_L_areThingsSo_77; rw [if_neg c_12, if_pos c_13, if_neg c_24, if_pos c_25]; try rfl) (by omega) (by omega) _ _ _ hP hD hS (lv_sub hl [0, 1, 6, 7, 8] rfl)
                    · refine lv_aload_n hx hb dL_areThingsSo_211 rfl (lv_at hl 8 rfl) ?_
                      refine lv_iload hx hb dL_areThingsSo_212 (lv_at hl 4 rfl) ?_
                      refine lv_iconst (v := 1) hx hb dL_areThingsSo_214 (by decide) ?_
                      refine call_W (w1 := fun _ => wX9 z h a b c9 hh hh1 d0 d1 d2 d3 t9 t91 r9 r91 r92 r93 v) len9 (fun _ => len9) (rV (As := [.int (nI k77), .int 1]) (rest := []) ⟨hx, hb, hml, hown, hts⟩ (c_X9_reel l D z tM tS h a b c9 hh hh1 d0 d1 d2 d3 t9 t91 r9 r91 r92 r93 v (nI k77) 1 (by assumption) (by assumption) H.size) (cwV 2 hts gL_areThingsSo_X9_reel rfl rfl rfl (by decide +kernel) ⟨Nat.le_trans (by decide) hRf, Nat.le_trans (by decide) hRl⟩) (ev_ok tM tS) (e_go (ev_ok tM tS) hE hD hS hA (List.range 128) (gN len9)) hK hP hD (List.range 128) nd128 (gN len9) (va_recv hK hP (ci := 9) (q0 := 0) rfl rfl) rfl hl.1 rfl (Nat.le_of_ble_eq_true rfl) dL_areThingsSo_215 ⟨Nat.zero_le _, Nat.zero_le _⟩) hK hP hD hS hA (fun zr zu H locs hw hP hD hS => ?_)
                      have hw : zr = (f_X9_reel v (nI k77) 1) := hw
                      subst hw
                      have hP : va_P D vwCl (wX9 z h a b c9 hh hh1 d0 d1 d2 d3 t9 t91 r9 r91 r92 r93 v) H := hP
                      have hD : va_D A (wX9 z h a b c9 hh hh1 d0 d1 d2 d3 t9 t91 r9 r91 r92 r93 v) := hD
                      refine lv_iconst (v := 3) hx hb dL_areThingsSo_218 (by decide) ?_
                      refine lv_icmp_lt (tgt := 295) hx hb dL_areThingsSo_219 (by decide) (fun c_26 => ?_) (fun c_26 => ?_)
                      · refine lv_iconst (v := 0) hx hb dL_areThingsSo_295 (by decide) ?_
                        refine lv_istore_n (lv' := [(3, .int 0), (8, .int (WHI (f_X9_reel v (nI k77) 2) (f_X9_reel v (nI k77) 1))), (7, .int x7), (6, .int x6), (5, .int (f_X9_reel v (nI k77) 0)), (4, .int (nI k77)), (2, .int (q77.2.1 + 0)), (1, .int (q77.1 + 1)), (0, .ref h)]) hx hb dL_areThingsSo_296 rfl hl (by decide) rfl (fun ls hl => ?_)
                        refine lv_iinc (v := nI (k77 + 1)) (lv' := [(4, .int (nI (k77 + 1))), (3, .int 0), (8, .int (WHI (f_X9_reel v (nI k77) 2) (f_X9_reel v (nI k77) 1))), (7, .int x7), (6, .int x6), (5, .int (f_X9_reel v (nI k77) 0)), (2, .int (q77.2.1 + 0)), (1, .int (q77.1 + 1)), (0, .ref h)]) hx hb dL_areThingsSo_297 hl (k := 5) rfl (nI_add k77 1) (by decide) rfl (fun ls hl => ?_)
                        refine lv_goto (tgt := 77) hx hb dL_areThingsSo_300 (by decide) ?_
                        exact ih77 (k77 + 1) ((q77.1 + 1), (q77.2.1 + 0), 0) (by rw [lp_L_areThingsSo_77_s, ← hq77]; unfold st_L_areThingsSo_77; rw [if_neg c_12, if_pos c_13, if_neg c_24, if_neg c_25, if_pos c_26]; try rfl) (by omega) (by omega) _ _ _ hP hD hS (lv_sub hl [0, 1, 6, 7, 8] rfl)
                      · refine lv_aload_n hx hb dL_areThingsSo_222 rfl (lv_at hl 8 rfl) ?_
                        refine lv_iload hx hb dL_areThingsSo_223 (lv_at hl 4 rfl) ?_
                        refine lv_iconst (v := 1) hx hb dL_areThingsSo_225 (by decide) ?_
                        refine call_W (w1 := fun _ => wX9 z h a b c9 hh hh1 d0 d1 d2 d3 t9 t91 r9 r91 r92 r93 v) len9 (fun _ => len9) (rV (As := [.int (nI k77), .int 1]) (rest := []) ⟨hx, hb, hml, hown, hts⟩ (c_X9_reel l D z tM tS h a b c9 hh hh1 d0 d1 d2 d3 t9 t91 r9 r91 r92 r93 v (nI k77) 1 (by assumption) (by assumption) H.size) (cwV 2 hts gL_areThingsSo_X9_reel rfl rfl rfl (by decide +kernel) ⟨Nat.le_trans (by decide) hRf, Nat.le_trans (by decide) hRl⟩) (ev_ok tM tS) (e_go (ev_ok tM tS) hE hD hS hA (List.range 128) (gN len9)) hK hP hD (List.range 128) nd128 (gN len9) (va_recv hK hP (ci := 9) (q0 := 0) rfl rfl) rfl hl.1 rfl (Nat.le_of_ble_eq_true rfl) dL_areThingsSo_226 ⟨Nat.zero_le _, Nat.zero_le _⟩) hK hP hD hS hA (fun zr zu H locs hw hP hD hS => ?_)
                        have hw : zr = (f_X9_reel v (nI k77) 1) := hw
                        subst hw
                        have hP : va_P D vwCl (wX9 z h a b c9 hh hh1 d0 d1 d2 d3 t9 t91 r9 r91 r92 r93 v) H := hP
                        have hD : va_D A (wX9 z h a b c9 hh hh1 d0 d1 d2 d3 t9 t91 r9 r91 r92 r93 v) := hD
                        refine lv_aload_n hx hb dL_areThingsSo_229 rfl (lv_at hl 8 rfl) ?_
                        refine lv_iload hx hb dL_areThingsSo_230 (lv_at hl 4 rfl) ?_
                        refine lv_iconst (v := 3) hx hb dL_areThingsSo_232 (by decide) ?_
                        refine call_W (w1 := fun _ => wX9 z h a b c9 hh hh1 d0 d1 d2 d3 t9 t91 r9 r91 r92 r93 v) len9 (fun _ => len9) (rV (As := [.int (nI k77), .int 3]) (rest := [.int (f_X9_reel v (nI k77) 1)]) ⟨hx, hb, hml, hown, hts⟩ (c_X9_reel l D z tM tS h a b c9 hh hh1 d0 d1 d2 d3 t9 t91 r9 r91 r92 r93 v (nI k77) 3 (by assumption) (by assumption) H.size) (cwV 2 hts gL_areThingsSo_X9_reel rfl rfl rfl (by decide +kernel) ⟨Nat.le_trans (by decide) hRf, Nat.le_trans (by decide) hRl⟩) (ev_ok tM tS) (e_go (ev_ok tM tS) hE hD hS hA (List.range 128) (gN len9)) hK hP hD (List.range 128) nd128 (gN len9) (va_recv hK hP (ci := 9) (q0 := 0) rfl rfl) rfl hl.1 rfl (Nat.le_of_ble_eq_true rfl) dL_areThingsSo_233 ⟨Nat.zero_le _, Nat.zero_le _⟩) hK hP hD hS hA (fun zr zu H locs hw hP hD hS => ?_)
                        have hw : zr = (f_X9_reel v (nI k77) 3) := hw
                        subst hw
                        have hP : va_P D vwCl (wX9 z h a b c9 hh hh1 d0 d1 d2 d3 t9 t91 r9 r91 r92 r93 v) H := hP
                        have hD : va_D A (wX9 z h a b c9 hh hh1 d0 d1 d2 d3 t9 t91 r9 r91 r92 r93 v) := hD
                        refine lv_iadd hx hb dL_areThingsSo_236 ?_
                        refine lv_bipush (v := 8) hx hb dL_areThingsSo_237 (by decide) ?_
                        refine lv_iload hx hb dL_areThingsSo_239 (lv_at hl 4 rfl) ?_
                        refine lv_iadd hx hb dL_areThingsSo_241 ?_
                        refine lv_icmp_ne (tgt := 295) hx hb dL_areThingsSo_242 (by decide) (fun c_27 => ?_) (fun c_27 => ?_)
                        · refine lv_iconst (v := 0) hx hb dL_areThingsSo_295 (by decide) ?_
                          refine lv_istore_n (lv' := [(3, .int 0), (8, .int (WHI (f_X9_reel v (nI k77) 2) (f_X9_reel v (nI k77) 1))), (7, .int x7), (6, .int x6), (5, .int (f_X9_reel v (nI k77) 0)), (4, .int (nI k77)), (2, .int (q77.2.1 + 0)), (1, .int (q77.1 + 1)), (0, .ref h)]) hx hb dL_areThingsSo_296 rfl hl (by decide) rfl (fun ls hl => ?_)
                          refine lv_iinc (v := nI (k77 + 1)) (lv' := [(4, .int (nI (k77 + 1))), (3, .int 0), (8, .int (WHI (f_X9_reel v (nI k77) 2) (f_X9_reel v (nI k77) 1))), (7, .int x7), (6, .int x6), (5, .int (f_X9_reel v (nI k77) 0)), (2, .int (q77.2.1 + 0)), (1, .int (q77.1 + 1)), (0, .ref h)]) hx hb dL_areThingsSo_297 hl (k := 5) rfl (nI_add k77 1) (by decide) rfl (fun ls hl => ?_)
                          refine lv_goto (tgt := 77) hx hb dL_areThingsSo_300 (by decide) ?_
                          exact ih77 (k77 + 1) ((q77.1 + 1), (q77.2.1 + 0), 0) (by rw [lp_L_areThingsSo_77_s, ← hq77]; unfold st_L_areThingsSo_77; rw [if_neg c_12, if_pos c_13, if_neg c_24, if_neg c_25, if_neg c_26, if_neg c_27]; try rfl) (by omega) (by omega) _ _ _ hP hD hS (lv_sub hl [0, 1, 6, 7, 8] rfl)
                        · refine lv_aload_n hx hb dL_areThingsSo_245 rfl (lv_at hl 8 rfl) ?_
                          refine lv_iload hx hb dL_areThingsSo_246 (lv_at hl 4 rfl) ?_
                          refine lv_iconst (v := 2) hx hb dL_areThingsSo_248 (by decide) ?_
                          refine call_W (w1 := fun _ => wX9 z h a b c9 hh hh1 d0 d1 d2 d3 t9 t91 r9 r91 r92 r93 v) len9 (fun _ => len9) (rV (As := [.int (nI k77), .int 2]) (rest := []) ⟨hx, hb, hml, hown, hts⟩ (c_X9_reel l D z tM tS h a b c9 hh hh1 d0 d1 d2 d3 t9 t91 r9 r91 r92 r93 v (nI k77) 2 (by assumption) (by assumption) H.size) (cwV 2 hts gL_areThingsSo_X9_reel rfl rfl rfl (by decide +kernel) ⟨Nat.le_trans (by decide) hRf, Nat.le_trans (by decide) hRl⟩) (ev_ok tM tS) (e_go (ev_ok tM tS) hE hD hS hA (List.range 128) (gN len9)) hK hP hD (List.range 128) nd128 (gN len9) (va_recv hK hP (ci := 9) (q0 := 0) rfl rfl) rfl hl.1 rfl (Nat.le_of_ble_eq_true rfl) dL_areThingsSo_249 ⟨Nat.zero_le _, Nat.zero_le _⟩) hK hP hD hS hA (fun zr zu H locs hw hP hD hS => ?_)
                          have hw : zr = (f_X9_reel v (nI k77) 2) := hw
                          subst hw
                          have hP : va_P D vwCl (wX9 z h a b c9 hh hh1 d0 d1 d2 d3 t9 t91 r9 r91 r92 r93 v) H := hP
                          have hD : va_D A (wX9 z h a b c9 hh hh1 d0 d1 d2 d3 t9 t91 r9 r91 r92 r93 v) := hD
                          refine lv_if_lt (tgt := 295) hx hb dL_areThingsSo_252 (by decide) (fun c_28 => ?_) (fun c_28 => ?_)
                          · refine lv_iconst (v := 0) hx hb dL_areThingsSo_295 (by decide) ?_
                            refine lv_istore_n (lv' := [(3, .int 0), (8, .int (WHI (f_X9_reel v (nI k77) 2) (f_X9_reel v (nI k77) 1))), (7, .int x7), (6, .int x6), (5, .int (f_X9_reel v (nI k77) 0)), (4, .int (nI k77)), (2, .int (q77.2.1 + 0)), (1, .int (q77.1 + 1)), (0, .ref h)]) hx hb dL_areThingsSo_296 rfl hl (by decide) rfl (fun ls hl => ?_)
                            refine lv_iinc (v := nI (k77 + 1)) (lv' := [(4, .int (nI (k77 + 1))), (3, .int 0), (8, .int (WHI (f_X9_reel v (nI k77) 2) (f_X9_reel v (nI k77) 1))), (7, .int x7), (6, .int x6), (5, .int (f_X9_reel v (nI k77) 0)), (2, .int (q77.2.1 + 0)), (1, .int (q77.1 + 1)), (0, .ref h)]) hx hb dL_areThingsSo_297 hl (k := 5) rfl (nI_add k77 1) (by decide) rfl (fun ls hl => ?_)
                            refine lv_goto (tgt := 77) hx hb dL_areThingsSo_300 (by decide) ?_
                            exact ih77 (k77 + 1) ((q77.1 + 1), (q77.2.1 + 0), 0) (by rw [lp_L_areThingsSo_77_s, ← hq77]; unfold st_L_areThingsSo_77; rw [if_neg c_12, if_pos c_13, if_neg c_24, if_neg c_25, if_neg c_26, if_pos c_27, if_pos c_28]; try rfl) (by omega) (by omega) _ _ _ hP hD hS (lv_sub hl [0, 1, 6, 7, 8] rfl)
                          · refine lv_aload_n hx hb dL_areThingsSo_255 rfl (lv_at hl 8 rfl) ?_
                            refine lv_iload hx hb dL_areThingsSo_256 (lv_at hl 4 rfl) ?_
                            refine lv_iconst (v := 2) hx hb dL_areThingsSo_258 (by decide) ?_
                            refine call_W (w1 := fun _ => wX9 z h a b c9 hh hh1 d0 d1 d2 d3 t9 t91 r9 r91 r92 r93 v) len9 (fun _ => len9) (rV (As := [.int (nI k77), .int 2]) (rest := []) ⟨hx, hb, hml, hown, hts⟩ (c_X9_reel l D z tM tS h a b c9 hh hh1 d0 d1 d2 d3 t9 t91 r9 r91 r92 r93 v (nI k77) 2 (by assumption) (by assumption) H.size) (cwV 2 hts gL_areThingsSo_X9_reel rfl rfl rfl (by decide +kernel) ⟨Nat.le_trans (by decide) hRf, Nat.le_trans (by decide) hRl⟩) (ev_ok tM tS) (e_go (ev_ok tM tS) hE hD hS hA (List.range 128) (gN len9)) hK hP hD (List.range 128) nd128 (gN len9) (va_recv hK hP (ci := 9) (q0 := 0) rfl rfl) rfl hl.1 rfl (Nat.le_of_ble_eq_true rfl) dL_areThingsSo_259 ⟨Nat.zero_le _, Nat.zero_le _⟩) hK hP hD hS hA (fun zr zu H locs hw hP hD hS => ?_)
                            have hw : zr = (f_X9_reel v (nI k77) 2) := hw
                            subst hw
                            have hP : va_P D vwCl (wX9 z h a b c9 hh hh1 d0 d1 d2 d3 t9 t91 r9 r91 r92 r93 v) H := hP
                            have hD : va_D A (wX9 z h a b c9 hh hh1 d0 d1 d2 d3 t9 t91 r9 r91 r92 r93 v) := hD
                            refine lv_bipush (v := 40) hx hb dL_areThingsSo_262 (by decide) ?_
                            refine lv_icmp_ge (tgt := 295) hx hb dL_areThingsSo_264 (by decide) (fun c_29 => ?_) (fun c_29 => ?_)
                            · refine lv_iconst (v := 0) hx hb dL_areThingsSo_295 (by decide) ?_
                              refine lv_istore_n (lv' := [(3, .int 0), (8, .int (WHI (f_X9_reel v (nI k77) 2) (f_X9_reel v (nI k77) 1))), (7, .int x7), (6, .int x6), (5, .int (f_X9_reel v (nI k77) 0)), (4, .int (nI k77)), (2, .int (q77.2.1 + 0)), (1, .int (q77.1 + 1)), (0, .ref h)]) hx hb dL_areThingsSo_296 rfl hl (by decide) rfl (fun ls hl => ?_)
                              refine lv_iinc (v := nI (k77 + 1)) (lv' := [(4, .int (nI (k77 + 1))), (3, .int 0), (8, .int (WHI (f_X9_reel v (nI k77) 2) (f_X9_reel v (nI k77) 1))), (7, .int x7), (6, .int x6), (5, .int (f_X9_reel v (nI k77) 0)), (2, .int (q77.2.1 + 0)), (1, .int (q77.1 + 1)), (0, .ref h)]) hx hb dL_areThingsSo_297 hl (k := 5) rfl (nI_add k77 1) (by decide) rfl (fun ls hl => ?_)
                              refine lv_goto (tgt := 77) hx hb dL_areThingsSo_300 (by decide) ?_
                              exact ih77 (k77 + 1) ((q77.1 + 1), (q77.2.1 + 0), 0) (by rw [lp_L_areThingsSo_77_s, ← hq77]; unfold st_L_areThingsSo_77; rw [if_neg c_12, if_pos c_13, if_neg c_24, if_neg c_25, if_neg c_26, if_pos c_27, if_neg c_28, if_pos c_29]; try rfl) (by omega) (by omega) _ _ _ hP hD hS (lv_sub hl [0, 1, 6, 7, 8] rfl)
                            · refine lv_aload_n hx hb dL_areThingsSo_267 rfl (lv_at hl 8 rfl) ?_
                              refine lv_iload hx hb dL_areThingsSo_268 (lv_at hl 4 rfl) ?_
                              refine lv_iconst (v := 4) hx hb dL_areThingsSo_270 (by decide) ?_
                              refine call_W (w1 := fun _ => wX9 z h a b c9 hh hh1 d0 d1 d2 d3 t9 t91 r9 r91 r92 r93 v) len9 (fun _ => len9) (rV (As := [.int (nI k77), .int 4]) (rest := []) ⟨hx, hb, hml, hown, hts⟩ (c_X9_reel l D z tM tS h a b c9 hh hh1 d0 d1 d2 d3 t9 t91 r9 r91 r92 r93 v (nI k77) 4 (by assumption) (by assumption) H.size) (cwV 2 hts gL_areThingsSo_X9_reel rfl rfl rfl (by decide +kernel) ⟨Nat.le_trans (by decide) hRf, Nat.le_trans (by decide) hRl⟩) (ev_ok tM tS) (e_go (ev_ok tM tS) hE hD hS hA (List.range 128) (gN len9)) hK hP hD (List.range 128) nd128 (gN len9) (va_recv hK hP (ci := 9) (q0 := 0) rfl rfl) rfl hl.1 rfl (Nat.le_of_ble_eq_true rfl) dL_areThingsSo_271 ⟨Nat.zero_le _, Nat.zero_le _⟩) hK hP hD hS hA (fun zr zu H locs hw hP hD hS => ?_)
                              have hw : zr = (f_X9_reel v (nI k77) 4) := hw
                              subst hw
                              have hP : va_P D vwCl (wX9 z h a b c9 hh hh1 d0 d1 d2 d3 t9 t91 r9 r91 r92 r93 v) H := hP
                              have hD : va_D A (wX9 z h a b c9 hh hh1 d0 d1 d2 d3 t9 t91 r9 r91 r92 r93 v) := hD
                              refine lv_bipush (v := 32) hx hb dL_areThingsSo_274 (by decide) ?_
                              refine lv_icmp_ge (tgt := 295) hx hb dL_areThingsSo_276 (by decide) (fun c_30 => ?_) (fun c_30 => ?_)
                              · refine lv_iconst (v := 0) hx hb dL_areThingsSo_295 (by decide) ?_
                                refine lv_istore_n (lv' := [(3, .int 0), (8, .int (WHI (f_X9_reel v (nI k77) 2) (f_X9_reel v (nI k77) 1))), (7, .int x7), (6, .int x6), (5, .int (f_X9_reel v (nI k77) 0)), (4, .int (nI k77)), (2, .int (q77.2.1 + 0)), (1, .int (q77.1 + 1)), (0, .ref h)]) hx hb dL_areThingsSo_296 rfl hl (by decide) rfl (fun ls hl => ?_)
                                refine lv_iinc (v := nI (k77 + 1)) (lv' := [(4, .int (nI (k77 + 1))), (3, .int 0), (8, .int (WHI (f_X9_reel v (nI k77) 2) (f_X9_reel v (nI k77) 1))), (7, .int x7), (6, .int x6), (5, .int (f_X9_reel v (nI k77) 0)), (2, .int (q77.2.1 + 0)), (1, .int (q77.1 + 1)), (0, .ref h)]) hx hb dL_areThingsSo_297 hl (k := 5) rfl (nI_add k77 1) (by decide) rfl (fun ls hl => ?_)
                                refine lv_goto (tgt := 77) hx hb dL_areThingsSo_300 (by decide) ?_
                                exact ih77 (k77 + 1) ((q77.1 + 1), (q77.2.1 + 0), 0) (by rw [lp_L_areThingsSo_77_s, ← hq77]; unfold st_L_areThingsSo_77; rw [if_neg c_12, if_pos c_13, if_neg c_24, if_neg c_25, if_neg c_26, if_pos c_27, if_neg c_28, if_neg c_29, if_pos c_30]; try rfl) (by omega) (by omega) _ _ _ hP hD hS (lv_sub hl [0, 1, 6, 7, 8] rfl)
                              · refine lv_aload_n hx hb dL_areThingsSo_279 rfl (lv_at hl 8 rfl) ?_
                                refine lv_iload hx hb dL_areThingsSo_280 (lv_at hl 4 rfl) ?_
                                refine lv_iconst (v := 5) hx hb dL_areThingsSo_282 (by decide) ?_
                                refine call_W (w1 := fun _ => wX9 z h a b c9 hh hh1 d0 d1 d2 d3 t9 t91 r9 r91 r92 r93 v) len9 (fun _ => len9) (rV (As := [.int (nI k77), .int 5]) (rest := []) ⟨hx, hb, hml, hown, hts⟩ (c_X9_reel l D z tM tS h a b c9 hh hh1 d0 d1 d2 d3 t9 t91 r9 r91 r92 r93 v (nI k77) 5 (by assumption) (by assumption) H.size) (cwV 2 hts gL_areThingsSo_X9_reel rfl rfl rfl (by decide +kernel) ⟨Nat.le_trans (by decide) hRf, Nat.le_trans (by decide) hRl⟩) (ev_ok tM tS) (e_go (ev_ok tM tS) hE hD hS hA (List.range 128) (gN len9)) hK hP hD (List.range 128) nd128 (gN len9) (va_recv hK hP (ci := 9) (q0 := 0) rfl rfl) rfl hl.1 rfl (Nat.le_of_ble_eq_true rfl) dL_areThingsSo_283 ⟨Nat.zero_le _, Nat.zero_le _⟩) hK hP hD hS hA (fun zr zu H locs hw hP hD hS => ?_)
                                have hw : zr = (f_X9_reel v (nI k77) 5) := hw
                                subst hw
                                have hP : va_P D vwCl (wX9 z h a b c9 hh hh1 d0 d1 d2 d3 t9 t91 r9 r91 r92 r93 v) H := hP
                                have hD : va_D A (wX9 z h a b c9 hh hh1 d0 d1 d2 d3 t9 t91 r9 r91 r92 r93 v) := hD
                                refine lv_iload hx hb dL_areThingsSo_286 (lv_at hl 0 rfl) ?_
                                refine lv_icmp_ne (tgt := 295) hx hb dL_areThingsSo_288 (by decide) (fun c_31 => ?_) (fun c_31 => ?_)
                                · refine lv_iconst (v := 0) hx hb dL_areThingsSo_295 (by decide) ?_
                                  refine lv_istore_n (lv' := [(3, .int 0), (8, .int (WHI (f_X9_reel v (nI k77) 2) (f_X9_reel v (nI k77) 1))), (7, .int x7), (6, .int x6), (5, .int (f_X9_reel v (nI k77) 0)), (4, .int (nI k77)), (2, .int (q77.2.1 + 0)), (1, .int (q77.1 + 1)), (0, .ref h)]) hx hb dL_areThingsSo_296 rfl hl (by decide) rfl (fun ls hl => ?_)
                                  refine lv_iinc (v := nI (k77 + 1)) (lv' := [(4, .int (nI (k77 + 1))), (3, .int 0), (8, .int (WHI (f_X9_reel v (nI k77) 2) (f_X9_reel v (nI k77) 1))), (7, .int x7), (6, .int x6), (5, .int (f_X9_reel v (nI k77) 0)), (2, .int (q77.2.1 + 0)), (1, .int (q77.1 + 1)), (0, .ref h)]) hx hb dL_areThingsSo_297 hl (k := 5) rfl (nI_add k77 1) (by decide) rfl (fun ls hl => ?_)
                                  refine lv_goto (tgt := 77) hx hb dL_areThingsSo_300 (by decide) ?_
                                  exact ih77 (k77 + 1) ((q77.1 + 1), (q77.2.1 + 0), 0) (by rw [lp_L_areThingsSo_77_s, ← hq77]; unfold st_L_areThingsSo_77; rw [if_neg c_12, if_pos c_13, if_neg c_24, if_neg c_25, if_neg c_26, if_pos c_27, if_neg c_28, if_neg c_29, if_neg c_30, if_neg c_31]; try rfl) (by omega) (by omega) _ _ _ hP hD hS (lv_sub hl [0, 1, 6, 7, 8] rfl)
                                · refine lv_iconst (v := 1) hx hb dL_areThingsSo_291 (by decide) ?_
                                  refine lv_goto (tgt := 296) hx hb dL_areThingsSo_292 (by decide) ?_
                                  refine lv_istore_n (lv' := [(3, .int 1), (8, .int (WHI (f_X9_reel v (nI k77) 2) (f_X9_reel v (nI k77) 1))), (7, .int x7), (6, .int x6), (5, .int (f_X9_reel v (nI k77) 0)), (4, .int (nI k77)), (2, .int (q77.2.1 + 0)), (1, .int (q77.1 + 1)), (0, .ref h)]) hx hb dL_areThingsSo_296 rfl hl (by decide) rfl (fun ls hl => ?_)
                                  refine lv_iinc (v := nI (k77 + 1)) (lv' := [(4, .int (nI (k77 + 1))), (3, .int 1), (8, .int (WHI (f_X9_reel v (nI k77) 2) (f_X9_reel v (nI k77) 1))), (7, .int x7), (6, .int x6), (5, .int (f_X9_reel v (nI k77) 0)), (2, .int (q77.2.1 + 0)), (1, .int (q77.1 + 1)), (0, .ref h)]) hx hb dL_areThingsSo_297 hl (k := 5) rfl (nI_add k77 1) (by decide) rfl (fun ls hl => ?_)
                                  refine lv_goto (tgt := 77) hx hb dL_areThingsSo_300 (by decide) ?_
                                  exact ih77 (k77 + 1) ((q77.1 + 1), (q77.2.1 + 0), 1) (by rw [lp_L_areThingsSo_77_s, ← hq77]; unfold st_L_areThingsSo_77; rw [if_neg c_12, if_pos c_13, if_neg c_24, if_neg c_25, if_neg c_26, if_pos c_27, if_neg c_28, if_neg c_29, if_neg c_30, if_pos c_31]; try rfl) (by omega) (by omega) _ _ _ hP hD hS (lv_sub hl [0, 1, 6, 7, 8] rfl)
              · refine lv_iconst (v := 1) hx hb dL_areThingsSo_101 (by decide) ?_
                refine lv_goto (tgt := 106) hx hb dL_areThingsSo_102 (by decide) ?_
                refine lv_iadd hx hb dL_areThingsSo_106 ?_
                refine lv_istore_n (lv' := [(2, .int (q77.2.1 + 1)), (5, .int (f_X9_reel v (nI k77) 0)), (4, .int (nI k77)), (3, .int q77.2.2), (1, .int q77.1), (0, .ref h)]) hx hb dL_areThingsSo_107 rfl hl (by decide) rfl (fun ls hl => ?_)
                refine lv_iload_n hx hb dL_areThingsSo_108 rfl (lv_at hl 4 rfl) ?_
                refine lv_iload hx hb dL_areThingsSo_109 (lv_at hl 1 rfl) ?_
                refine lv_ldc (v := (-10000005)) hx hb hown (hts (.constant RL 49 (-10000005)) (by decide +kernel)) dL_areThingsSo_111 ?_
                refine lv_icmp_ne (tgt := 120) hx hb dL_areThingsSo_113 (by decide) (fun c_32 => ?_) (fun c_32 => absurd c_32 (by rw [c_12]; decide : ¬ (f_X9_reel v (nI k77) 0) = (-10000005)))
                refine lv_iconst (v := 0) hx hb dL_areThingsSo_120 (by decide) ?_
                refine lv_iadd hx hb dL_areThingsSo_121 ?_
                refine lv_istore_n (lv' := [(1, .int (q77.1 + 0)), (2, .int (q77.2.1 + 1)), (5, .int (f_X9_reel v (nI k77) 0)), (4, .int (nI k77)), (3, .int q77.2.2), (0, .ref h)]) hx hb dL_areThingsSo_122 rfl hl (by decide) rfl (fun ls hl => ?_)
                refine lv_iload hx hb dL_areThingsSo_123 (lv_at hl 2 rfl) ?_
                refine lv_ldc (v := (-10000001)) hx hb hown (hts (.constant RL 53 (-10000001)) (by decide +kernel)) dL_areThingsSo_125 ?_
                refine lv_icmp_eq (tgt := 297) hx hb dL_areThingsSo_127 (by decide) (fun c_33 => ?_) (fun c_33 => absurd c_12 c_33)
                refine lv_iinc (v := nI (k77 + 1)) (lv' := [(4, .int (nI (k77 + 1))), (1, .int (q77.1 + 0)), (2, .int (q77.2.1 + 1)), (5, .int (f_X9_reel v (nI k77) 0)), (3, .int q77.2.2), (0, .ref h)]) hx hb dL_areThingsSo_297 hl (k := 3) rfl (nI_add k77 1) (by decide) rfl (fun ls hl => ?_)
                refine lv_goto (tgt := 77) hx hb dL_areThingsSo_300 (by decide) ?_
                exact ih77 (k77 + 1) ((q77.1 + 0), (q77.2.1 + 1), q77.2.2) (by rw [lp_L_areThingsSo_77_s, ← hq77]; unfold st_L_areThingsSo_77; rw [if_pos c_12]; try rfl) (by omega) (by omega) _ _ _ hP hD hS (lv_sub hl [0, 4, 2, 1, 5] rfl)
            · obtain rfl : 10 = k77 := by omega
              refine lv_icmp_ge (tgt := 303) hx hb dL_areThingsSo_81 (by decide) (fun c_11 => ?_) (fun c_11 => absurd (nI_le (a := 10) (b := 10) (by omega) (by omega)) c_11)
              have hP : va_P D vwCl (wX9 z h a b c9 hh hh1 d0 d1 d2 d3 t9 t91 r9 r91 r92 r93 v) H := hP
              have hD : va_D A (wX9 z h a b c9 hh hh1 d0 d1 d2 d3 t9 t91 r9 r91 r92 r93 v) := hD
              refine lv_iload_n hx hb dL_areThingsSo_303 rfl (lv_at hl 1 rfl) ?_
              refine lv_if_eq (tgt := 329) hx hb dL_areThingsSo_304 (by decide) (fun c_34 => ?_) (fun c_34 => ?_)
              · refine lv_iconst (v := 0) hx hb dL_areThingsSo_329 (by decide) ?_
                subst hQ
                exact ret_z () hx hb hr rfl hK hP hD hS rfl ⟨(by unfold f_L_areThingsSo; rw [← hq9]; unfold f_L_areThingsSo_9_x; rw [← hq77]; unfold f_L_areThingsSo_77_x; rw [if_pos c_34]; try rfl), (Or.inl rfl)⟩ dL_areThingsSo_330 hlocks
              · refine lv_iload_n hx hb dL_areThingsSo_307 rfl (lv_at hl 3 rfl) ?_
                refine lv_aload_n hx hb dL_areThingsSo_308 rfl (lv_at hl 4 rfl) ?_
                refine lv_iconst (v := 2) hx hb dL_areThingsSo_309 (by decide) ?_
                refine call_W (w1 := fun _ => wX9 z h a b c9 hh hh1 d0 d1 d2 d3 t9 t91 r9 r91 r92 r93 v) len9 (fun _ => len9) (rV (As := [.int 2]) (rest := [.int q77.1]) ⟨hx, hb, hml, hown, hts⟩ (c_X9_count l D z tM tS h a b c9 hh hh1 d0 d1 d2 d3 t9 t91 r9 r91 r92 r93 v 2 H.size) (cwV 1 hts gL_areThingsSo_X9_count rfl rfl rfl (by decide +kernel) ⟨Nat.le_trans (by decide) hRf, Nat.le_trans (by decide) hRl⟩) (ev_ok tM tS) (e_go (ev_ok tM tS) hE hD hS hA (List.range 128) (gN len9)) hK hP hD (List.range 128) nd128 (gN len9) (va_recv hK hP (ci := 9) (q0 := 0) rfl rfl) rfl hl.1 rfl (Nat.le_of_ble_eq_true rfl) dL_areThingsSo_310 ⟨Nat.zero_le _, Nat.zero_le _⟩) hK hP hD hS hA (fun zr zu H locs hw hP hD hS => ?_)
                have hw : zr = (f_X9_count v 2) := hw
                subst hw
                have hP : va_P D vwCl (wX9 z h a b c9 hh hh1 d0 d1 d2 d3 t9 t91 r9 r91 r92 r93 v) H := hP
                have hD : va_D A (wX9 z h a b c9 hh hh1 d0 d1 d2 d3 t9 t91 r9 r91 r92 r93 v) := hD
                refine lv_icmp_ne (tgt := 329) hx hb dL_areThingsSo_313 (by decide) (fun c_35 => ?_) (fun c_35 => ?_)
                · refine lv_iconst (v := 0) hx hb dL_areThingsSo_329 (by decide) ?_
                  subst hQ
                  exact ret_z () hx hb hr rfl hK hP hD hS rfl ⟨(by unfold f_L_areThingsSo; rw [← hq9]; unfold f_L_areThingsSo_9_x; rw [← hq77]; unfold f_L_areThingsSo_77_x; rw [if_neg c_34, if_neg c_35]; try rfl), (Or.inl rfl)⟩ dL_areThingsSo_330 hlocks
                · refine lv_iload_n hx hb dL_areThingsSo_316 rfl (lv_at hl 2 rfl) ?_
                  refine lv_aload_n hx hb dL_areThingsSo_317 rfl (lv_at hl 4 rfl) ?_
                  refine lv_iconst (v := 3) hx hb dL_areThingsSo_318 (by decide) ?_
                  refine call_W (w1 := fun _ => wX9 z h a b c9 hh hh1 d0 d1 d2 d3 t9 t91 r9 r91 r92 r93 v) len9 (fun _ => len9) (rV (As := [.int 3]) (rest := [.int q77.2.1]) ⟨hx, hb, hml, hown, hts⟩ (c_X9_count l D z tM tS h a b c9 hh hh1 d0 d1 d2 d3 t9 t91 r9 r91 r92 r93 v 3 H.size) (cwV 1 hts gL_areThingsSo_X9_count rfl rfl rfl (by decide +kernel) ⟨Nat.le_trans (by decide) hRf, Nat.le_trans (by decide) hRl⟩) (ev_ok tM tS) (e_go (ev_ok tM tS) hE hD hS hA (List.range 128) (gN len9)) hK hP hD (List.range 128) nd128 (gN len9) (va_recv hK hP (ci := 9) (q0 := 0) rfl rfl) rfl hl.1 rfl (Nat.le_of_ble_eq_true rfl) dL_areThingsSo_319 ⟨Nat.zero_le _, Nat.zero_le _⟩) hK hP hD hS hA (fun zr zu H locs hw hP hD hS => ?_)
                  have hw : zr = (f_X9_count v 3) := hw
                  subst hw
                  have hP : va_P D vwCl (wX9 z h a b c9 hh hh1 d0 d1 d2 d3 t9 t91 r9 r91 r92 r93 v) H := hP
                  have hD : va_D A (wX9 z h a b c9 hh hh1 d0 d1 d2 d3 t9 t91 r9 r91 r92 r93 v) := hD
                  refine lv_icmp_ne (tgt := 329) hx hb dL_areThingsSo_322 (by decide) (fun c_36 => ?_) (fun c_36 => ?_)
                  · refine lv_iconst (v := 0) hx hb dL_areThingsSo_329 (by decide) ?_
                    subst hQ
                    exact ret_z () hx hb hr rfl hK hP hD hS rfl ⟨(by unfold f_L_areThingsSo; rw [← hq9]; unfold f_L_areThingsSo_9_x; rw [← hq77]; unfold f_L_areThingsSo_77_x; rw [if_neg c_34, if_pos c_35, if_neg c_36]; try rfl), (Or.inl rfl)⟩ dL_areThingsSo_330 hlocks
                  · refine lv_iconst (v := 1) hx hb dL_areThingsSo_325 (by decide) ?_
                    refine lv_goto (tgt := 330) hx hb dL_areThingsSo_326 (by decide) ?_
                    subst hQ
                    exact ret_z () hx hb hr rfl hK hP hD hS rfl ⟨(by unfold f_L_areThingsSo; rw [← hq9]; unfold f_L_areThingsSo_9_x; rw [← hq77]; unfold f_L_areThingsSo_77_x; rw [if_neg c_34, if_pos c_35, if_pos c_36]; try rfl), (Or.inr rfl)⟩ dL_areThingsSo_330 hlocks
        exact L77 (10 + 1) 0 (q9.1, 0, q9.2) (lp_L_areThingsSo_77_0 v q9 (q9.1, 0, q9.2)).symm (Nat.zero_le _) (by omega) _ _ _ hP hD hS (lv_sub hl [0, 1, 2, 3, 4] rfl)
  exact L9 (2 + 1) 0 (0, 1) (lp_L_areThingsSo_9_0 v (0, 1)).symm (Nat.zero_le _) (by omega) _ _ _ hP hD hS (lv_sub hl [0, 1, 2, 3, 4] rfl)

