def f_L_areBarnsSo_130_x (v : PV) (k9 : Nat) (q9 : Int32 × Int32 × Int32) (q36 : Int32 × Int32 × Int32 × Int32) (q130 : Int32 × Int32) : Int32 × Int32 × Int32 := if q36.1 = 0 then if q9.2.2 = 0 then ((q9.1 + (f_X9_barn v (nI k9) 8)), (q9.2.1 + (f_X9_barn v (nI k9) 7)), 0) else if (f_X9_barn v (nI k9) 3) = q36.1 then if (f_X9_barn v (nI k9) 4) = q36.2.1 then if (f_X9_barn v (nI k9) 5) = 0 then if (f_X9_barn v (nI k9) 1) < (f_X9_barn v (nI k9) 5) then ((q9.1 + (f_X9_barn v (nI k9) 8)), (q9.2.1 + (f_X9_barn v (nI k9) 7)), 0) else if (f_X9_ifPrice v (nI k9) 7) = (7 * (f_X9_barn v (nI k9) 5)) then if (f_X9_barn v (nI k9) 6) = 1 then ((q9.1 + (f_X9_barn v (nI k9) 8)), (q9.2.1 + (f_X9_barn v (nI k9) 7)), 1) else if (f_X9_barn v (nI k9) 6) = 2 then ((q9.1 + (f_X9_barn v (nI k9) 8)), (q9.2.1 + (f_X9_barn v (nI k9) 7)), 1) else ((q9.1 + (f_X9_barn v (nI k9) 8)), (q9.2.1 + (f_X9_barn v (nI k9) 7)), 0) else ((q9.1 + (f_X9_barn v (nI k9) 8)), (q9.2.1 + (f_X9_barn v (nI k9) 7)), 0) else ((q9.1 + (f_X9_barn v (nI k9) 8)), (q9.2.1 + (f_X9_barn v (nI k9) 7)), 0) else ((q9.1 + (f_X9_barn v (nI k9) 8)), (q9.2.1 + (f_X9_barn v (nI k9) 7)), 0) else ((q9.1 + (f_X9_barn v (nI k9) 8)), (q9.2.1 + (f_X9_barn v (nI k9) 7)), 0) else if q9.2.2 = 0 then ((q9.1 + (f_X9_barn v (nI k9) 8)), (q9.2.1 + (f_X9_barn v (nI k9) 7)), 0) else if (f_X9_barn v (nI k9) 3) = q36.1 then if (f_X9_barn v (nI k9) 4) = q36.2.1 then if 0 ≤ ((((f_X9_barn v (nI k9) 1) * q36.2.2.1) / q36.1) - (q36.2.2.2 / 10)) then if (f_X9_barn v (nI k9) 5) = ((((f_X9_barn v (nI k9) 1) * q36.2.2.1) / q36.1) - (q36.2.2.2 / 10)) then if (f_X9_barn v (nI k9) 1) < (f_X9_barn v (nI k9) 5) then ((q9.1 + (f_X9_barn v (nI k9) 8)), (q9.2.1 + (f_X9_barn v (nI k9) 7)), 0) else if (f_X9_ifPrice v (nI k9) 7) = (7 * (f_X9_barn v (nI k9) 5)) then if (f_X9_barn v (nI k9) 6) = 1 then ((q9.1 + (f_X9_barn v (nI k9) 8)), (q9.2.1 + (f_X9_barn v (nI k9) 7)), 1) else if q130.1 = 0 then if (f_X9_barn v (nI k9) 6) = 3 then ((q9.1 + (f_X9_barn v (nI k9) 8)), (q9.2.1 + (f_X9_barn v (nI k9) 7)), 1) else ((q9.1 + (f_X9_barn v (nI k9) 8)), (q9.2.1 + (f_X9_barn v (nI k9) 7)), 0) else if q130.2 = 0 then if (f_X9_barn v (nI k9) 6) = 4 then ((q9.1 + (f_X9_barn v (nI k9) 8)), (q9.2.1 + (f_X9_barn v (nI k9) 7)), 1) else ((q9.1 + (f_X9_barn v (nI k9) 8)), (q9.2.1 + (f_X9_barn v (nI k9) 7)), 0) else if (f_X9_barn v (nI k9) 6) = 0 then ((q9.1 + (f_X9_barn v (nI k9) 8)), (q9.2.1 + (f_X9_barn v (nI k9) 7)), 1) else ((q9.1 + (f_X9_barn v (nI k9) 8)), (q9.2.1 + (f_X9_barn v (nI k9) 7)), 0) else ((q9.1 + (f_X9_barn v (nI k9) 8)), (q9.2.1 + (f_X9_barn v (nI k9) 7)), 0) else ((q9.1 + (f_X9_barn v (nI k9) 8)), (q9.2.1 + (f_X9_barn v (nI k9) 7)), 0) else if (f_X9_barn v (nI k9) 5) = 0 then if (f_X9_barn v (nI k9) 1) < (f_X9_barn v (nI k9) 5) then ((q9.1 + (f_X9_barn v (nI k9) 8)), (q9.2.1 + (f_X9_barn v (nI k9) 7)), 0) else if (f_X9_ifPrice v (nI k9) 7) = (7 * (f_X9_barn v (nI k9) 5)) then if (f_X9_barn v (nI k9) 6) = 1 then ((q9.1 + (f_X9_barn v (nI k9) 8)), (q9.2.1 + (f_X9_barn v (nI k9) 7)), 1) else if q130.1 = 0 then if (f_X9_barn v (nI k9) 6) = 3 then ((q9.1 + (f_X9_barn v (nI k9) 8)), (q9.2.1 + (f_X9_barn v (nI k9) 7)), 1) else ((q9.1 + (f_X9_barn v (nI k9) 8)), (q9.2.1 + (f_X9_barn v (nI k9) 7)), 0) else if q130.2 = 0 then if (f_X9_barn v (nI k9) 6) = 4 then ((q9.1 + (f_X9_barn v (nI k9) 8)), (q9.2.1 + (f_X9_barn v (nI k9) 7)), 1) else ((q9.1 + (f_X9_barn v (nI k9) 8)), (q9.2.1 + (f_X9_barn v (nI k9) 7)), 0) else if (f_X9_barn v (nI k9) 6) = 0 then ((q9.1 + (f_X9_barn v (nI k9) 8)), (q9.2.1 + (f_X9_barn v (nI k9) 7)), 1) else ((q9.1 + (f_X9_barn v (nI k9) 8)), (q9.2.1 + (f_X9_barn v (nI k9) 7)), 0) else ((q9.1 + (f_X9_barn v (nI k9) 8)), (q9.2.1 + (f_X9_barn v (nI k9) 7)), 0) else ((q9.1 + (f_X9_barn v (nI k9) 8)), (q9.2.1 + (f_X9_barn v (nI k9) 7)), 0) else ((q9.1 + (f_X9_barn v (nI k9) 8)), (q9.2.1 + (f_X9_barn v (nI k9) 7)), 0) else ((q9.1 + (f_X9_barn v (nI k9) 8)), (q9.2.1 + (f_X9_barn v (nI k9) 7)), 0)
def st_L_areBarnsSo_130 (v : PV) (k9 : Nat) (q9 : Int32 × Int32 × Int32) (q36 : Int32 × Int32 × Int32 × Int32) (k130 : Nat) (q130 : Int32 × Int32) : Int32 × Int32 := if q130.1 = 0 then if (f_X9_generator v (nI k130) 0) = (nI k9) then if q130.2 = 0 then if (f_X9_generator v (nI k130) 1) < q36.2.1 then (1, 0) else (1, 1) else (1, 1) else if q130.2 = 0 then (0, 0) else (0, 1) else if q130.2 = 0 then if (f_X9_generator v (nI k130) 0) = (nI k9) then if (f_X9_generator v (nI k130) 1) < q36.2.1 then (1, 0) else (1, 1) else (1, 0) else (1, 1)
def lp_L_areBarnsSo_130 (v : PV) (k9 : Nat) (q9 : Int32 × Int32 × Int32) (q36 : Int32 × Int32 × Int32 × Int32) (i0 : Int32 × Int32) : Nat → Int32 × Int32
  | 0 => i0
  | k + 1 => st_L_areBarnsSo_130 v k9 q9 q36 k (lp_L_areBarnsSo_130 v k9 q9 q36 i0 k)
theorem lp_L_areBarnsSo_130_0 (v : PV) (k9 : Nat) (q9 : Int32 × Int32 × Int32) (q36 : Int32 × Int32 × Int32 × Int32) (i0 : Int32 × Int32) : lp_L_areBarnsSo_130 v k9 q9 q36 i0 0 = i0 := rfl
theorem lp_L_areBarnsSo_130_s (v : PV) (k9 : Nat) (q9 : Int32 × Int32 × Int32) (q36 : Int32 × Int32 × Int32 × Int32) (i0 : Int32 × Int32) (k : Nat) : lp_L_areBarnsSo_130 v k9 q9 q36 i0 (k + 1) = st_L_areBarnsSo_130 v k9 q9 q36 k (lp_L_areBarnsSo_130 v k9 q9 q36 i0 k) := rfl
def f_L_areBarnsSo_36_x (v : PV) (k9 : Nat) (q9 : Int32 × Int32 × Int32) (q36 : Int32 × Int32 × Int32 × Int32) : Int32 × Int32 × Int32 := f_L_areBarnsSo_130_x v k9 q9 q36 (lp_L_areBarnsSo_130 v k9 q9 q36 (0, 0) 2)
def st_L_areBarnsSo_36 (v : PV) (k9 : Nat) (q9 : Int32 × Int32 × Int32) (k36 : Nat) (q36 : Int32 × Int32 × Int32 × Int32) : Int32 × Int32 × Int32 × Int32 := if (f_X9_reel v (nI k36) 0) = (nI k9) then if (((f_X9_reel v (nI k36) 4) >>> ((nI k9) &&& 31)) &&& 1) = 0 then if (f_X9_reel v (nI k36) 2) ≤ q36.2.2.2 then ((q36.1 + 1), (q36.2.1 + (f_X9_reel v (nI k36) 1)), (q36.2.2.1 + 1), q36.2.2.2) else ((q36.1 + 1), (q36.2.1 + (f_X9_reel v (nI k36) 1)), (q36.2.2.1 + 1), (f_X9_reel v (nI k36) 2)) else if (f_X9_reel v (nI k36) 2) ≤ q36.2.2.2 then ((q36.1 + 1), (q36.2.1 + (f_X9_reel v (nI k36) 1)), (q36.2.2.1 + 0), q36.2.2.2) else ((q36.1 + 1), (q36.2.1 + (f_X9_reel v (nI k36) 1)), (q36.2.2.1 + 0), (f_X9_reel v (nI k36) 2)) else (q36.1, q36.2.1, q36.2.2.1, q36.2.2.2)
def lp_L_areBarnsSo_36 (v : PV) (k9 : Nat) (q9 : Int32 × Int32 × Int32) (i0 : Int32 × Int32 × Int32 × Int32) : Nat → Int32 × Int32 × Int32 × Int32
  | 0 => i0
  | k + 1 => st_L_areBarnsSo_36 v k9 q9 k (lp_L_areBarnsSo_36 v k9 q9 i0 k)
theorem lp_L_areBarnsSo_36_0 (v : PV) (k9 : Nat) (q9 : Int32 × Int32 × Int32) (i0 : Int32 × Int32 × Int32 × Int32) : lp_L_areBarnsSo_36 v k9 q9 i0 0 = i0 := rfl
theorem lp_L_areBarnsSo_36_s (v : PV) (k9 : Nat) (q9 : Int32 × Int32 × Int32) (i0 : Int32 × Int32 × Int32 × Int32) (k : Nat) : lp_L_areBarnsSo_36 v k9 q9 i0 (k + 1) = st_L_areBarnsSo_36 v k9 q9 k (lp_L_areBarnsSo_36 v k9 q9 i0 k) := rfl
def f_L_areBarnsSo_9_x (v : PV) (q9 : Int32 × Int32 × Int32) : Int32 := if q9.2.2 = 0 then 0 else if q9.1 = (f_X9_count v 4) then if q9.2.1 = (f_X9_count v 9) then if (f_X9_count v 8) = (((q9.1 - (f_X9_count v 5)) - (f_X9_count v 6)) - (f_X9_count v 7)) then 1 else 0 else 0 else 0
def st_L_areBarnsSo_9 (v : PV) (k9 : Nat) (q9 : Int32 × Int32 × Int32) : Int32 × Int32 × Int32 := f_L_areBarnsSo_36_x v k9 q9 (lp_L_areBarnsSo_36 v k9 q9 (0, 0, 0, 0) 10)
def lp_L_areBarnsSo_9 (v : PV) (i0 : Int32 × Int32 × Int32) : Nat → Int32 × Int32 × Int32
  | 0 => i0
  | k + 1 => st_L_areBarnsSo_9 v k (lp_L_areBarnsSo_9 v i0 k)
theorem lp_L_areBarnsSo_9_0 (v : PV) (i0 : Int32 × Int32 × Int32) : lp_L_areBarnsSo_9 v i0 0 = i0 := rfl
theorem lp_L_areBarnsSo_9_s (v : PV) (i0 : Int32 × Int32 × Int32) (k : Nat) : lp_L_areBarnsSo_9 v i0 (k + 1) = st_L_areBarnsSo_9 v k (lp_L_areBarnsSo_9 v i0 k) := rfl
def f_L_areBarnsSo (v : PV) : Int32 := f_L_areBarnsSo_9_x v (lp_L_areBarnsSo_9 v (0, 0, 1) 5)
set_option maxRecDepth 100000 in
set_option maxHeartbeats 1000000 in
theorem c_L_areBarnsSo (l : Launch) (D : va_G) (z : ClassId × ClassId × ClassId) (tM tS : Nat) (h : Nat) (a b c9 : Nat → Nat) (hh hh1 : Nat) (d0 d1 d2 d3 : Nat → Nat) (t9 t91 r9 r91 r92 r93 : Nat) (v : PV) (hn : v.2.2.2.1.2.1 = nI v.2.2.2.1.2.1.toNatClampNeg) (hn4 : v.2.2.2.1.2.1.toNatClampNeg < 4) (hV : vp_in v.1.2.2.2.2.2.1 5) (hW : WOK v.1.1) (hM : MOK v.1.1) (hLs : v.1.2.2.2.1.2.toInt ≤ 6) (sz : Nat) : CI l yL_areBarnsSo wsL_areBarnsSo 5 112 0 0 [.ref h] D z (wX9 z h a b c9 hh hh1 d0 d1 d2 d3 t9 t91 r9 r91 r92 r93 v) sz (EV tM tS) (fun (zr : Int32) (_ : Unit) => zr = f_L_areBarnsSo v ∧ (zr = 0 ∨ zr = 1)) (fun _ => wX9 z h a b c9 hh hh1 d0 d1 d2 d3 t9 t91 r9 r91 r92 r93 v) := by
  refine met_i cL_areBarnsSo 13 (some .boolean) (by decide) rfl (Nat.le_of_ble_eq_true rfl) ?_
  intro p e s m args below meth c R Q hx hb hr hml hts hown hlocks hin hRf hRl hRc hRs hc0 hs0 A H hA hP hK hD hS hE hQ ls hl
  have hl : lv_has ls 13 [(0, .ref h)] := hl
  have hP : va_P D vwCl (wX9 z h a b c9 hh hh1 d0 d1 d2 d3 t9 t91 r9 r91 r92 r93 v) H := hP
  have hD : va_D A (wX9 z h a b c9 hh hh1 d0 d1 d2 d3 t9 t91 r9 r91 r92 r93 v) := hD
  have hown : s.vm.findClass RL = some m.cls := hown
  refine lv_iconst (v := 0) hx hb dL_areBarnsSo_0 (by decide) ?_
  refine lv_istore_n (lv' := [(1, .int 0), (0, .ref h)]) hx hb dL_areBarnsSo_1 rfl hl (by decide) rfl (fun ls hl => ?_)
  refine lv_iconst (v := 0) hx hb dL_areBarnsSo_2 (by decide) ?_
  refine lv_istore_n (lv' := [(2, .int 0), (1, .int 0), (0, .ref h)]) hx hb dL_areBarnsSo_3 rfl hl (by decide) rfl (fun ls hl => ?_)
  refine lv_iconst (v := 1) hx hb dL_areBarnsSo_4 (by decide) ?_
  refine lv_istore_n (lv' := [(3, .int 1), (2, .int 0), (1, .int 0), (0, .ref h)]) hx hb dL_areBarnsSo_5 rfl hl (by decide) rfl (fun ls hl => ?_)
  refine lv_iconst (v := 0) hx hb dL_areBarnsSo_6 (by decide) ?_
  refine lv_istore (lv' := [(4, .int 0), (3, .int 1), (2, .int 0), (1, .int 0), (0, .ref h)]) hx hb dL_areBarnsSo_7 hl (by decide) rfl (fun ls hl => ?_)
  have L9 : ∀ (n9 k9 : Nat) (q9 : Int32 × Int32 × Int32), q9 = lp_L_areBarnsSo_9 v (0, 0, 1) k9 → k9 ≤ 5 → 5 + 1 ≤ k9 + n9 → ∀ (H : Heap) (locs : List Loc) (ls : Array Slot), va_P D vwCl (wX9 z h a b c9 hh hh1 d0 d1 d2 d3 t9 t91 r9 r91 r92 r93 v) H → va_D A (wX9 z h a b c9 hh hh1 d0 d1 d2 d3 t9 t91 r9 r91 r92 r93 v) → va_S A s.heap H locs → lv_has ls 13 [(4, .int (nI k9)), (3, .int q9.2.2), (2, .int q9.2.1), (1, .int q9.1), (0, .ref h)] → W p l e R s m args below meth c H locs 0 0 Q (F0 m 9 ls []) := by
    intro n9
    induction n9 with
    | zero => intro k9 q9 hq9 h1 h2; exact absurd h2 (by omega)
    | succ n9 ih9 =>
      intro k9 q9 hq9 hk9 hn9 H locs ls hP hD hS hl
      refine lv_iload hx hb dL_areBarnsSo_9 (lv_at hl 0 rfl) ?_
      refine lv_iconst (v := 5) hx hb dL_areBarnsSo_11 (by decide) ?_
      rcases Nat.lt_or_ge k9 5 with hlt | hge
      · refine lv_icmp_ge (tgt := 402) hx hb dL_areBarnsSo_12 (by decide) (fun c_2 => absurd c_2 (nI_ge (a := k9) (b := 5) (by omega) (by omega))) (fun c_2 => ?_)
        refine lv_iconst (v := 0) hx hb dL_areBarnsSo_15 (by decide) ?_
        refine lv_istore (lv' := [(5, .int 0), (4, .int (nI k9)), (3, .int q9.2.2), (2, .int q9.2.1), (1, .int q9.1), (0, .ref h)]) hx hb dL_areBarnsSo_16 hl (by decide) rfl (fun ls hl => ?_)
        refine lv_iconst (v := 0) hx hb dL_areBarnsSo_18 (by decide) ?_
        refine lv_istore (lv' := [(6, .int 0), (5, .int 0), (4, .int (nI k9)), (3, .int q9.2.2), (2, .int q9.2.1), (1, .int q9.1), (0, .ref h)]) hx hb dL_areBarnsSo_19 hl (by decide) rfl (fun ls hl => ?_)
        refine lv_iconst (v := 0) hx hb dL_areBarnsSo_21 (by decide) ?_
        refine lv_istore (lv' := [(7, .int 0), (6, .int 0), (5, .int 0), (4, .int (nI k9)), (3, .int q9.2.2), (2, .int q9.2.1), (1, .int q9.1), (0, .ref h)]) hx hb dL_areBarnsSo_22 hl (by decide) rfl (fun ls hl => ?_)
        refine lv_iconst (v := 0) hx hb dL_areBarnsSo_24 (by decide) ?_
        refine lv_istore (lv' := [(8, .int 0), (7, .int 0), (6, .int 0), (5, .int 0), (4, .int (nI k9)), (3, .int q9.2.2), (2, .int q9.2.1), (1, .int q9.1), (0, .ref h)]) hx hb dL_areBarnsSo_25 hl (by decide) rfl (fun ls hl => ?_)
        refine lv_iconst (v := 0) hx hb dL_areBarnsSo_27 (by decide) ?_
        refine lv_istore (lv' := [(9, .int 0), (8, .int 0), (7, .int 0), (6, .int 0), (5, .int 0), (4, .int (nI k9)), (3, .int q9.2.2), (2, .int q9.2.1), (1, .int q9.1), (0, .ref h)]) hx hb dL_areBarnsSo_28 hl (by decide) rfl (fun ls hl => ?_)
        refine lv_iconst (v := 0) hx hb dL_areBarnsSo_30 (by decide) ?_
        refine lv_istore (lv' := [(10, .int 0), (9, .int 0), (8, .int 0), (7, .int 0), (6, .int 0), (5, .int 0), (4, .int (nI k9)), (3, .int q9.2.2), (2, .int q9.2.1), (1, .int q9.1), (0, .ref h)]) hx hb dL_areBarnsSo_31 hl (by decide) rfl (fun ls hl => ?_)
        refine lv_iconst (v := 0) hx hb dL_areBarnsSo_33 (by decide) ?_
        refine lv_istore (lv' := [(11, .int 0), (10, .int 0), (9, .int 0), (8, .int 0), (7, .int 0), (6, .int 0), (5, .int 0), (4, .int (nI k9)), (3, .int q9.2.2), (2, .int q9.2.1), (1, .int q9.1), (0, .ref h)]) hx hb dL_areBarnsSo_34 hl (by decide) rfl (fun ls hl => ?_)
        have L36 : ∀ (n36 k36 : Nat) (q36 : Int32 × Int32 × Int32 × Int32), q36 = lp_L_areBarnsSo_36 v k9 q9 (0, 0, 0, 0) k36 → k36 ≤ 10 → 10 + 1 ≤ k36 + n36 → ∀ (H : Heap) (locs : List Loc) (ls : Array Slot), va_P D vwCl (wX9 z h a b c9 hh hh1 d0 d1 d2 d3 t9 t91 r9 r91 r92 r93 v) H → va_D A (wX9 z h a b c9 hh hh1 d0 d1 d2 d3 t9 t91 r9 r91 r92 r93 v) → va_S A s.heap H locs → lv_has ls 13 [(11, .int (nI k36)), (10, .int 0), (9, .int 0), (8, .int q36.2.2.2), (7, .int q36.2.2.1), (6, .int q36.2.1), (5, .int q36.1), (4, .int (nI k9)), (3, .int q9.2.2), (2, .int q9.2.1), (1, .int q9.1), (0, .ref h)] → W p l e R s m args below meth c H locs 0 0 Q (F0 m 36 ls []) := by
          intro n36
          induction n36 with
          | zero => intro k36 q36 hq36 h1 h2; exact absurd h2 (by omega)
          | succ n36 ih36 =>
            intro k36 q36 hq36 hk36 hn36 H locs ls hP hD hS hl
            refine lv_iload hx hb dL_areBarnsSo_36 (lv_at hl 0 rfl) ?_
            refine lv_bipush (v := 10) hx hb dL_areBarnsSo_38 (by decide) ?_
            rcases Nat.lt_or_ge k36 10 with hlt | hge
            · refine lv_icmp_ge (tgt := 127) hx hb dL_areBarnsSo_40 (by decide) (fun c_4 => absurd c_4 (nI_ge (a := k36) (b := 10) (by omega) (by omega))) (fun c_4 => ?_)
              refine lv_aload_n hx hb dL_areBarnsSo_43 rfl (lv_at hl 11 rfl) ?_
              refine lv_iload hx hb dL_areBarnsSo_44 (lv_at hl 0 rfl) ?_
              refine lv_iconst (v := 0) hx hb dL_areBarnsSo_46 (by decide) ?_
              refine call_W (w1 := fun _ => wX9 z h a b c9 hh hh1 d0 d1 d2 d3 t9 t91 r9 r91 r92 r93 v) len9 (fun _ => len9) (rV (As := [.int (nI k36), .int 0]) (rest := []) ⟨hx, hb, hml, hown, hts⟩ (c_X9_reel l D z tM tS h a b c9 hh hh1 d0 d1 d2 d3 t9 t91 r9 r91 r92 r93 v (nI k36) 0 (by assumption) (by assumption) H.size) (cwV 2 hts gL_areBarnsSo_X9_reel rfl rfl rfl (by decide +kernel) ⟨Nat.le_trans (by decide) hRf, Nat.le_trans (by decide) hRl⟩) (ev_ok tM tS) (e_go (ev_ok tM tS) hE hD hS hA (List.range 128) (gN len9)) hK hP hD (List.range 128) nd128 (gN len9) (va_recv hK hP (ci := 9) (q0 := 0) rfl rfl) rfl hl.1 rfl (Nat.le_of_ble_eq_true rfl) dL_areBarnsSo_47 ⟨Nat.zero_le _, Nat.zero_le _⟩) hK hP hD hS hA (fun zr zu H locs hw hP hD hS => ?_)
              have hw : zr = (f_X9_reel v (nI k36) 0) := hw
              subst hw
              have hP : va_P D vwCl (wX9 z h a b c9 hh hh1 d0 d1 d2 d3 t9 t91 r9 r91 r92 r93 v) H := hP
              have hD : va_D A (wX9 z h a b c9 hh hh1 d0 d1 d2 d3 t9 t91 r9 r91 r92 r93 v) := hD
              refine lv_iload hx hb dL_areBarnsSo_50 (lv_at hl 7 rfl) ?_
              refine lv_icmp_ne (tgt := 121) hx hb dL_areBarnsSo_52 (by decide) (fun c_5 => ?_) (fun c_5 => ?_)
              · refine lv_iinc (v := nI (k36 + 1)) (lv' := [(11, .int (nI (k36 + 1))), (10, .int 0), (9, .int 0), (8, .int q36.2.2.2), (7, .int q36.2.2.1), (6, .int q36.2.1), (5, .int q36.1), (4, .int (nI k9)), (3, .int q9.2.2), (2, .int q9.2.1), (1, .int q9.1), (0, .ref h)]) hx hb dL_areBarnsSo_121 hl (k := 0) rfl (nI_add k36 1) (by decide) rfl (fun ls hl => ?_)
                refine lv_goto (tgt := 36) hx hb dL_areBarnsSo_124 (by decide) ?_
                exact ih36 (k36 + 1) (q36.1, q36.2.1, q36.2.2.1, q36.2.2.2) (by rw [lp_L_areBarnsSo_36_s, ← hq36]; unfold st_L_areBarnsSo_36; rw [if_neg c_5]; try rfl) (by omega) (by omega) _ _ _ hP hD hS (lv_sub hl [0, 1, 2, 3, 4, 5, 6, 7, 8, 9, 10, 11] rfl)
              · refine lv_iinc (v := (q36.1 + 1)) (lv' := [(5, .int (q36.1 + 1)), (11, .int (nI k36)), (10, .int 0), (9, .int 0), (8, .int q36.2.2.2), (7, .int q36.2.2.1), (6, .int q36.2.1), (4, .int (nI k9)), (3, .int q9.2.2), (2, .int q9.2.1), (1, .int q9.1), (0, .ref h)]) hx hb dL_areBarnsSo_55 hl (k := 6) rfl rfl (by decide) rfl (fun ls hl => ?_)
                refine lv_iload hx hb dL_areBarnsSo_58 (lv_at hl 6 rfl) ?_
                refine lv_aload_n hx hb dL_areBarnsSo_60 rfl (lv_at hl 11 rfl) ?_
                refine lv_iload hx hb dL_areBarnsSo_61 (lv_at hl 1 rfl) ?_
                refine lv_iconst (v := 1) hx hb dL_areBarnsSo_63 (by decide) ?_
                refine call_W (w1 := fun _ => wX9 z h a b c9 hh hh1 d0 d1 d2 d3 t9 t91 r9 r91 r92 r93 v) len9 (fun _ => len9) (rV (As := [.int (nI k36), .int 1]) (rest := [.int q36.2.1]) ⟨hx, hb, hml, hown, hts⟩ (c_X9_reel l D z tM tS h a b c9 hh hh1 d0 d1 d2 d3 t9 t91 r9 r91 r92 r93 v (nI k36) 1 (by assumption) (by assumption) H.size) (cwV 2 hts gL_areBarnsSo_X9_reel rfl rfl rfl (by decide +kernel) ⟨Nat.le_trans (by decide) hRf, Nat.le_trans (by decide) hRl⟩) (ev_ok tM tS) (e_go (ev_ok tM tS) hE hD hS hA (List.range 128) (gN len9)) hK hP hD (List.range 128) nd128 (gN len9) (va_recv hK hP (ci := 9) (q0 := 0) rfl rfl) rfl hl.1 rfl (Nat.le_of_ble_eq_true rfl) dL_areBarnsSo_64 ⟨Nat.zero_le _, Nat.zero_le _⟩) hK hP hD hS hA (fun zr zu H locs hw hP hD hS => ?_)
                have hw : zr = (f_X9_reel v (nI k36) 1) := hw
                subst hw
                have hP : va_P D vwCl (wX9 z h a b c9 hh hh1 d0 d1 d2 d3 t9 t91 r9 r91 r92 r93 v) H := hP
                have hD : va_D A (wX9 z h a b c9 hh hh1 d0 d1 d2 d3 t9 t91 r9 r91 r92 r93 v) := hD
                refine lv_iadd hx hb dL_areBarnsSo_67 ?_
                refine lv_istore (lv' := [(6, .int (q36.2.1 + (f_X9_reel v (nI k36) 1))), (5, .int (q36.1 + 1)), (11, .int (nI k36)), (10, .int 0), (9, .int 0), (8, .int q36.2.2.2), (7, .int q36.2.2.1), (4, .int (nI k9)), (3, .int q9.2.2), (2, .int q9.2.1), (1, .int q9.1), (0, .ref h)]) hx hb dL_areBarnsSo_68 hl (by decide) rfl (fun ls hl => ?_)
                refine lv_iload hx hb dL_areBarnsSo_70 (lv_at hl 6 rfl) ?_
                refine lv_aload_n hx hb dL_areBarnsSo_72 rfl (lv_at hl 11 rfl) ?_
                refine lv_iload hx hb dL_areBarnsSo_73 (lv_at hl 2 rfl) ?_
                refine lv_iconst (v := 4) hx hb dL_areBarnsSo_75 (by decide) ?_
                refine call_W (w1 := fun _ => wX9 z h a b c9 hh hh1 d0 d1 d2 d3 t9 t91 r9 r91 r92 r93 v) len9 (fun _ => len9) (rV (As := [.int (nI k36), .int 4]) (rest := [.int q36.2.2.1]) ⟨hx, hb, hml, hown, hts⟩ (c_X9_reel l D z tM tS h a b c9 hh hh1 d0 d1 d2 d3 t9 t91 r9 r91 r92 r93 v (nI k36) 4 (by assumption) (by assumption) H.size) (cwV 2 hts gL_areBarnsSo_X9_reel rfl rfl rfl (by decide +kernel) ⟨Nat.le_trans (by decide) hRf, Nat.le_trans (by decide) hRl⟩) (ev_ok tM tS) (e_go (ev_ok tM tS) hE hD hS hA (List.range 128) (gN len9)) hK hP hD (List.range 128) nd128 (gN len9) (va_recv hK hP (ci := 9) (q0 := 0) rfl rfl) rfl hl.1 rfl (Nat.le_of_ble_eq_true rfl) dL_areBarnsSo_76 ⟨Nat.zero_le _, Nat.zero_le _⟩) hK hP hD hS hA (fun zr zu H locs hw hP hD hS => ?_)
                have hw : zr = (f_X9_reel v (nI k36) 4) := hw
                subst hw
                have hP : va_P D vwCl (wX9 z h a b c9 hh hh1 d0 d1 d2 d3 t9 t91 r9 r91 r92 r93 v) H := hP
                have hD : va_D A (wX9 z h a b c9 hh hh1 d0 d1 d2 d3 t9 t91 r9 r91 r92 r93 v) := hD
                refine lv_iload hx hb dL_areBarnsSo_79 (lv_at hl 7 rfl) ?_
                refine lv_ishr hx hb dL_areBarnsSo_81 ?_
                refine lv_iconst (v := 1) hx hb dL_areBarnsSo_82 (by decide) ?_
                refine lv_iand hx hb dL_areBarnsSo_83 ?_
                refine lv_if_ne (tgt := 91) hx hb dL_areBarnsSo_84 (by decide) (fun c_6 => ?_) (fun c_6 => ?_)
                · refine lv_iconst (v := 0) hx hb dL_areBarnsSo_91 (by decide) ?_
                  refine lv_iadd hx hb dL_areBarnsSo_92 ?_
                  refine lv_istore (lv' := [(7, .int (q36.2.2.1 + 0)), (6, .int (q36.2.1 + (f_X9_reel v (nI k36) 1))), (5, .int (q36.1 + 1)), (11, .int (nI k36)), (10, .int 0), (9, .int 0), (8, .int q36.2.2.2), (4, .int (nI k9)), (3, .int q9.2.2), (2, .int q9.2.1), (1, .int q9.1), (0, .ref h)]) hx hb dL_areBarnsSo_93 hl (by decide) rfl (fun ls hl => ?_)
                  refine lv_aload_n hx hb dL_areBarnsSo_95 rfl (lv_at hl 11 rfl) ?_
                  refine lv_iload hx hb dL_areBarnsSo_96 (lv_at hl 3 rfl) ?_
                  refine lv_iconst (v := 2) hx hb dL_areBarnsSo_98 (by decide) ?_
                  refine call_W (w1 := fun _ => wX9 z h a b c9 hh hh1 d0 d1 d2 d3 t9 t91 r9 r91 r92 r93 v) len9 (fun _ => len9) (rV (As := [.int (nI k36), .int 2]) (rest := []) ⟨hx, hb, hml, hown, hts⟩ (c_X9_reel l D z tM tS h a b c9 hh hh1 d0 d1 d2 d3 t9 t91 r9 r91 r92 r93 v (nI k36) 2 (by assumption) (by assumption) H.size) (cwV 2 hts gL_areBarnsSo_X9_reel rfl rfl rfl (by decide +kernel) ⟨Nat.le_trans (by decide) hRf, Nat.le_trans (by decide) hRl⟩) (ev_ok tM tS) (e_go (ev_ok tM tS) hE hD hS hA (List.range 128) (gN len9)) hK hP hD (List.range 128) nd128 (gN len9) (va_recv hK hP (ci := 9) (q0 := 0) rfl rfl) rfl hl.1 rfl (Nat.le_of_ble_eq_true rfl) dL_areBarnsSo_99 ⟨Nat.zero_le _, Nat.zero_le _⟩) hK hP hD hS hA (fun zr zu H locs hw hP hD hS => ?_)
                  have hw : zr = (f_X9_reel v (nI k36) 2) := hw
                  subst hw
                  have hP : va_P D vwCl (wX9 z h a b c9 hh hh1 d0 d1 d2 d3 t9 t91 r9 r91 r92 r93 v) H := hP
                  have hD : va_D A (wX9 z h a b c9 hh hh1 d0 d1 d2 d3 t9 t91 r9 r91 r92 r93 v) := hD
                  refine lv_iload hx hb dL_areBarnsSo_102 (lv_at hl 6 rfl) ?_
                  refine lv_icmp_le (tgt := 117) hx hb dL_areBarnsSo_104 (by decide) (fun c_7 => ?_) (fun c_7 => ?_)
                  · refine lv_iload hx hb dL_areBarnsSo_117 (lv_at hl 6 rfl) ?_
                    refine lv_istore (lv' := [(8, .int q36.2.2.2), (7, .int (q36.2.2.1 + 0)), (6, .int (q36.2.1 + (f_X9_reel v (nI k36) 1))), (5, .int (q36.1 + 1)), (11, .int (nI k36)), (10, .int 0), (9, .int 0), (4, .int (nI k9)), (3, .int q9.2.2), (2, .int q9.2.1), (1, .int q9.1), (0, .ref h)]) hx hb dL_areBarnsSo_119 hl (by decide) rfl (fun ls hl => ?_)
                    refine lv_iinc (v := nI (k36 + 1)) (lv' := [(11, .int (nI (k36 + 1))), (8, .int q36.2.2.2), (7, .int (q36.2.2.1 + 0)), (6, .int (q36.2.1 + (f_X9_reel v (nI k36) 1))), (5, .int (q36.1 + 1)), (10, .int 0), (9, .int 0), (4, .int (nI k9)), (3, .int q9.2.2), (2, .int q9.2.1), (1, .int q9.1), (0, .ref h)]) hx hb dL_areBarnsSo_121 hl (k := 4) rfl (nI_add k36 1) (by decide) rfl (fun ls hl => ?_)
                    refine lv_goto (tgt := 36) hx hb dL_areBarnsSo_124 (by decide) ?_
                    exact ih36 (k36 + 1) ((q36.1 + 1), (q36.2.1 + (f_X9_reel v (nI k36) 1)), (q36.2.2.1 + 0), q36.2.2.2) (by rw [lp_L_areBarnsSo_36_s, ← hq36]; unfold st_L_areBarnsSo_36; rw [if_pos c_5, if_neg c_6, if_pos c_7]; try rfl) (by omega) (by omega) _ _ _ hP hD hS (lv_sub hl [0, 5, 6, 1, 2, 3, 4, 7, 8, 9, 10, 11] rfl)
                  · refine lv_aload_n hx hb dL_areBarnsSo_107 rfl (lv_at hl 11 rfl) ?_
                    refine lv_iload hx hb dL_areBarnsSo_108 (lv_at hl 3 rfl) ?_
                    refine lv_iconst (v := 2) hx hb dL_areBarnsSo_110 (by decide) ?_
                    refine call_W (w1 := fun _ => wX9 z h a b c9 hh hh1 d0 d1 d2 d3 t9 t91 r9 r91 r92 r93 v) len9 (fun _ => len9) (rV (As := [.int (nI k36), .int 2]) (rest := []) ⟨hx, hb, hml, hown, hts⟩ (c_X9_reel l D z tM tS h a b c9 hh hh1 d0 d1 d2 d3 t9 t91 r9 r91 r92 r93 v (nI k36) 2 (by assumption) (by assumption) H.size) (cwV 2 hts gL_areBarnsSo_X9_reel rfl rfl rfl (by decide +kernel) ⟨Nat.le_trans (by decide) hRf, Nat.le_trans (by decide) hRl⟩) (ev_ok tM tS) (e_go (ev_ok tM tS) hE hD hS hA (List.range 128) (gN len9)) hK hP hD (List.range 128) nd128 (gN len9) (va_recv hK hP (ci := 9) (q0 := 0) rfl rfl) rfl hl.1 rfl (Nat.le_of_ble_eq_true rfl) dL_areBarnsSo_111 ⟨Nat.zero_le _, Nat.zero_le _⟩) hK hP hD hS hA (fun zr zu H locs hw hP hD hS => ?_)
                    have hw : zr = (f_X9_reel v (nI k36) 2) := hw
                    subst hw
                    have hP : va_P D vwCl (wX9 z h a b c9 hh hh1 d0 d1 d2 d3 t9 t91 r9 r91 r92 r93 v) H := hP
                    have hD : va_D A (wX9 z h a b c9 hh hh1 d0 d1 d2 d3 t9 t91 r9 r91 r92 r93 v) := hD
                    refine lv_goto (tgt := 119) hx hb dL_areBarnsSo_114 (by decide) ?_
                    refine lv_istore (lv' := [(8, .int (f_X9_reel v (nI k36) 2)), (7, .int (q36.2.2.1 + 0)), (6, .int (q36.2.1 + (f_X9_reel v (nI k36) 1))), (5, .int (q36.1 + 1)), (11, .int (nI k36)), (10, .int 0), (9, .int 0), (4, .int (nI k9)), (3, .int q9.2.2), (2, .int q9.2.1), (1, .int q9.1), (0, .ref h)]) hx hb dL_areBarnsSo_119 hl (by decide) rfl (fun ls hl => ?_)
                    refine lv_iinc (v := nI (k36 + 1)) (lv' := [(11, .int (nI (k36 + 1))), (8, .int (f_X9_reel v (nI k36) 2)), (7, .int (q36.2.2.1 + 0)), (6, .int (q36.2.1 + (f_X9_reel v (nI k36) 1))), (5, .int (q36.1 + 1)), (10, .int 0), (9, .int 0), (4, .int (nI k9)), (3, .int q9.2.2), (2, .int q9.2.1), (1, .int q9.1), (0, .ref h)]) hx hb dL_areBarnsSo_121 hl (k := 4) rfl (nI_add k36 1) (by decide) rfl (fun ls hl => ?_)
                    refine lv_goto (tgt := 36) hx hb dL_areBarnsSo_124 (by decide) ?_
                    exact ih36 (k36 + 1) ((q36.1 + 1), (q36.2.1 + (f_X9_reel v (nI k36) 1)), (q36.2.2.1 + 0), (f_X9_reel v (nI k36) 2)) (by rw [lp_L_areBarnsSo_36_s, ← hq36]; unfold st_L_areBarnsSo_36; rw [if_pos c_5, if_neg c_6, if_neg c_7]; try rfl) (by omega) (by omega) _ _ _ hP hD hS (lv_sub hl [0, 5, 6, 1, 2, 3, 4, 7, 8, 9, 10, 11] rfl)
                · refine lv_iconst (v := 1) hx hb dL_areBarnsSo_87 (by decide) ?_
                  refine lv_goto (tgt := 92) hx hb dL_areBarnsSo_88 (by decide) ?_
                  refine lv_iadd hx hb dL_areBarnsSo_92 ?_
                  refine lv_istore (lv' := [(7, .int (q36.2.2.1 + 1)), (6, .int (q36.2.1 + (f_X9_reel v (nI k36) 1))), (5, .int (q36.1 + 1)), (11, .int (nI k36)), (10, .int 0), (9, .int 0), (8, .int q36.2.2.2), (4, .int (nI k9)), (3, .int q9.2.2), (2, .int q9.2.1), (1, .int q9.1), (0, .ref h)]) hx hb dL_areBarnsSo_93 hl (by decide) rfl (fun ls hl => ?_)
                  refine lv_aload_n hx hb dL_areBarnsSo_95 rfl (lv_at hl 11 rfl) ?_
                  refine lv_iload hx hb dL_areBarnsSo_96 (lv_at hl 3 rfl) ?_
                  refine lv_iconst (v := 2) hx hb dL_areBarnsSo_98 (by decide) ?_
                  refine call_W (w1 := fun _ => wX9 z h a b c9 hh hh1 d0 d1 d2 d3 t9 t91 r9 r91 r92 r93 v) len9 (fun _ => len9) (rV (As := [.int (nI k36), .int 2]) (rest := []) ⟨hx, hb, hml, hown, hts⟩ (c_X9_reel l D z tM tS h a b c9 hh hh1 d0 d1 d2 d3 t9 t91 r9 r91 r92 r93 v (nI k36) 2 (by assumption) (by assumption) H.size) (cwV 2 hts gL_areBarnsSo_X9_reel rfl rfl rfl (by decide +kernel) ⟨Nat.le_trans (by decide) hRf, Nat.le_trans (by decide) hRl⟩) (ev_ok tM tS) (e_go (ev_ok tM tS) hE hD hS hA (List.range 128) (gN len9)) hK hP hD (List.range 128) nd128 (gN len9) (va_recv hK hP (ci := 9) (q0 := 0) rfl rfl) rfl hl.1 rfl (Nat.le_of_ble_eq_true rfl) dL_areBarnsSo_99 ⟨Nat.zero_le _, Nat.zero_le _⟩) hK hP hD hS hA (fun zr zu H locs hw hP hD hS => ?_)
                  have hw : zr = (f_X9_reel v (nI k36) 2) := hw
                  subst hw
                  have hP : va_P D vwCl (wX9 z h a b c9 hh hh1 d0 d1 d2 d3 t9 t91 r9 r91 r92 r93 v) H := hP
                  have hD : va_D A (wX9 z h a b c9 hh hh1 d0 d1 d2 d3 t9 t91 r9 r91 r92 r93 v) := hD
                  refine lv_iload hx hb dL_areBarnsSo_102 (lv_at hl 6 rfl) ?_
                  refine lv_icmp_le (tgt := 117) hx hb dL_areBarnsSo_104 (by decide) (fun c_8 => ?_) (fun c_8 => ?_)
                  · refine lv_iload hx hb dL_areBarnsSo_117 (lv_at hl 6 rfl) ?_
                    refine lv_istore (lv' := [(8, .int q36.2.2.2), (7, .int (q36.2.2.1 + 1)), (6, .int (q36.2.1 + (f_X9_reel v (nI k36) 1))), (5, .int (q36.1 + 1)), (11, .int (nI k36)), (10, .int 0), (9, .int 0), (4, .int (nI k9)), (3, .int q9.2.2), (2, .int q9.2.1), (1, .int q9.1), (0, .ref h)]) hx hb dL_areBarnsSo_119 hl (by decide) rfl (fun ls hl => ?_)
                    refine lv_iinc (v := nI (k36 + 1)) (lv' := [(11, .int (nI (k36 + 1))), (8, .int q36.2.2.2), (7, .int (q36.2.2.1 + 1)), (6, .int (q36.2.1 + (f_X9_reel v (nI k36) 1))), (5, .int (q36.1 + 1)), (10, .int 0), (9, .int 0), (4, .int (nI k9)), (3, .int q9.2.2), (2, .int q9.2.1), (1, .int q9.1), (0, .ref h)]) hx hb dL_areBarnsSo_121 hl (k := 4) rfl (nI_add k36 1) (by decide) rfl (fun ls hl => ?_)
                    refine lv_goto (tgt := 36) hx hb dL_areBarnsSo_124 (by decide) ?_
                    exact ih36 (k36 + 1) ((q36.1 + 1), (q36.2.1 + (f_X9_reel v (nI k36) 1)), (q36.2.2.1 + 1), q36.2.2.2) (by rw [lp_L_areBarnsSo_36_s, ← hq36]; unfold st_L_areBarnsSo_36; rw [if_pos c_5, if_pos c_6, if_pos c_8]; try rfl) (by omega) (by omega) _ _ _ hP hD hS (lv_sub hl [0, 5, 6, 1, 2, 3, 4, 7, 8, 9, 10, 11] rfl)
                  · refine lv_aload_n hx hb dL_areBarnsSo_107 rfl (lv_at hl 11 rfl) ?_
                    refine lv_iload hx hb dL_areBarnsSo_108 (lv_at hl 3 rfl) ?_
                    refine lv_iconst (v := 2) hx hb dL_areBarnsSo_110 (by decide) ?_
                    refine call_W (w1 := fun _ => wX9 z h a b c9 hh hh1 d0 d1 d2 d3 t9 t91 r9 r91 r92 r93 v) len9 (fun _ => len9) (rV (As := [.int (nI k36), .int 2]) (rest := []) ⟨hx, hb, hml, hown, hts⟩ (c_X9_reel l D z tM tS h a b c9 hh hh1 d0 d1 d2 d3 t9 t91 r9 r91 r92 r93 v (nI k36) 2 (by assumption) (by assumption) H.size) (cwV 2 hts gL_areBarnsSo_X9_reel rfl rfl rfl (by decide +kernel) ⟨Nat.le_trans (by decide) hRf, Nat.le_trans (by decide) hRl⟩) (ev_ok tM tS) (e_go (ev_ok tM tS) hE hD hS hA (List.range 128) (gN len9)) hK hP hD (List.range 128) nd128 (gN len9) (va_recv hK hP (ci := 9) (q0 := 0) rfl rfl) rfl hl.1 rfl (Nat.le_of_ble_eq_true rfl) dL_areBarnsSo_111 ⟨Nat.zero_le _, Nat.zero_le _⟩) hK hP hD hS hA (fun zr zu H locs hw hP hD hS => ?_)
                    have hw : zr = (f_X9_reel v (nI k36) 2) := hw
                    subst hw
                    have hP : va_P D vwCl (wX9 z h a b c9 hh hh1 d0 d1 d2 d3 t9 t91 r9 r91 r92 r93 v) H := hP
                    have hD : va_D A (wX9 z h a b c9 hh hh1 d0 d1 d2 d3 t9 t91 r9 r91 r92 r93 v) := hD
                    refine lv_goto (tgt := 119) hx hb dL_areBarnsSo_114 (by decide) ?_
                    refine lv_istore (lv' := [(8, .int (f_X9_reel v (nI k36) 2)), (7, .int (q36.2.2.1 + 1)), (6, .int (q36.2.1 + (f_X9_reel v (nI k36) 1))), (5, .int (q36.1 + 1)), (11, .int (nI k36)), (10, .int 0), (9, .int 0), (4, .int (nI k9)), (3, .int q9.2.2), (2, .int q9.2.1), (1, .int q9.1), (0, .ref h)]) hx hb dL_areBarnsSo_119 hl (by decide) rfl (fun ls hl => ?_)
                    refine lv_iinc (v := nI (k36 + 1)) (lv' := [(11, .int (nI (k36 + 1))), (8, .int (f_X9_reel v (nI k36) 2)), (7, .int (q36.2.2.1 + 1)), (6, .int (q36.2.1 + (f_X9_reel v (nI k36) 1))), (5, .int (q36.1 + 1)), (10, .int 0), (9, .int 0), (4, .int (nI k9)), (3, .int q9.2.2), (2, .int q9.2.1), (1, .int q9.1), (0, .ref h)]) hx hb dL_areBarnsSo_121 hl (k := 4) rfl (nI_add k36 1) (by decide) rfl (fun ls hl => ?_)
                    refine lv_goto (tgt := 36) hx hb dL_areBarnsSo_124 (by decide) ?_
                    exact ih36 (k36 + 1) ((q36.1 + 1), (q36.2.1 + (f_X9_reel v (nI k36) 1)), (q36.2.2.1 + 1), (f_X9_reel v (nI k36) 2)) (by rw [lp_L_areBarnsSo_36_s, ← hq36]; unfold st_L_areBarnsSo_36; rw [if_pos c_5, if_pos c_6, if_neg c_8]; try rfl) (by omega) (by omega) _ _ _ hP hD hS (lv_sub hl [0, 5, 6, 1, 2, 3, 4, 7, 8, 9, 10, 11] rfl)
            · obtain rfl : 10 = k36 := by omega
              refine lv_icmp_ge (tgt := 127) hx hb dL_areBarnsSo_40 (by decide) (fun c_4 => ?_) (fun c_4 => absurd (nI_le (a := 10) (b := 10) (by omega) (by omega)) c_4)
              have hP : va_P D vwCl (wX9 z h a b c9 hh hh1 d0 d1 d2 d3 t9 t91 r9 r91 r92 r93 v) H := hP
              have hD : va_D A (wX9 z h a b c9 hh hh1 d0 d1 d2 d3 t9 t91 r9 r91 r92 r93 v) := hD
              refine lv_iconst (v := 0) hx hb dL_areBarnsSo_127 (by decide) ?_
              refine lv_istore (lv' := [(11, .int 0), (10, .int 0), (9, .int 0), (8, .int q36.2.2.2), (7, .int q36.2.2.1), (6, .int q36.2.1), (5, .int q36.1), (4, .int (nI k9)), (3, .int q9.2.2), (2, .int q9.2.1), (1, .int q9.1), (0, .ref h)]) hx hb dL_areBarnsSo_128 hl (by decide) rfl (fun ls hl => ?_)
              have L130 : ∀ (n130 k130 : Nat) (q130 : Int32 × Int32), q130 = lp_L_areBarnsSo_130 v k9 q9 q36 (0, 0) k130 → k130 ≤ 2 → 2 + 1 ≤ k130 + n130 → ∀ (H : Heap) (locs : List Loc) (ls : Array Slot), va_P D vwCl (wX9 z h a b c9 hh hh1 d0 d1 d2 d3 t9 t91 r9 r91 r92 r93 v) H → va_D A (wX9 z h a b c9 hh hh1 d0 d1 d2 d3 t9 t91 r9 r91 r92 r93 v) → va_S A s.heap H locs → lv_has ls 13 [(11, .int (nI k130)), (10, .int q130.2), (9, .int q130.1), (8, .int q36.2.2.2), (7, .int q36.2.2.1), (6, .int q36.2.1), (5, .int q36.1), (4, .int (nI k9)), (3, .int q9.2.2), (2, .int q9.2.1), (1, .int q9.1), (0, .ref h)] → W p l e R s m args below meth c H locs 0 0 Q (F0 m 130 ls []) := by
                intro n130
                induction n130 with
                | zero => intro k130 q130 hq130 h1 h2; exact absurd h2 (by omega)
                | succ n130 ih130 =>
                  intro k130 q130 hq130 hk130 hn130 H locs ls hP hD hS hl
                  refine lv_iload hx hb dL_areBarnsSo_130 (lv_at hl 0 rfl) ?_
                  refine lv_iconst (v := 2) hx hb dL_areBarnsSo_132 (by decide) ?_
                  rcases Nat.lt_or_ge k130 2 with hlt | hge
                  · refine lv_icmp_ge (tgt := 202) hx hb dL_areBarnsSo_133 (by decide) (fun c_10 => absurd c_10 (nI_ge (a := k130) (b := 2) (by omega) (by omega))) (fun c_10 => ?_)
                    refine lv_iload hx hb dL_areBarnsSo_136 (lv_at hl 2 rfl) ?_
                    refine lv_if_ne (tgt := 153) hx hb dL_areBarnsSo_138 (by decide) (fun c_11 => ?_) (fun c_11 => ?_)
                    · refine lv_iconst (v := 1) hx hb dL_areBarnsSo_153 (by decide) ?_
                      refine lv_goto (tgt := 158) hx hb dL_areBarnsSo_154 (by decide) ?_
                      refine lv_istore (lv' := [(9, .int 1), (11, .int (nI k130)), (10, .int q130.2), (8, .int q36.2.2.2), (7, .int q36.2.2.1), (6, .int q36.2.1), (5, .int q36.1), (4, .int (nI k9)), (3, .int q9.2.2), (2, .int q9.2.1), (1, .int q9.1), (0, .ref h)]) hx hb dL_areBarnsSo_158 hl (by decide) rfl (fun ls hl => ?_)
                      refine lv_iload hx hb dL_areBarnsSo_160 (lv_at hl 2 rfl) ?_
                      refine lv_if_ne (tgt := 189) hx hb dL_areBarnsSo_162 (by decide) (fun c_12 => ?_) (fun c_12 => ?_)
                      · refine lv_iconst (v := 1) hx hb dL_areBarnsSo_189 (by decide) ?_
                        refine lv_goto (tgt := 194) hx hb dL_areBarnsSo_190 (by decide) ?_
                        refine lv_istore (lv' := [(10, .int 1), (9, .int 1), (11, .int (nI k130)), (8, .int q36.2.2.2), (7, .int q36.2.2.1), (6, .int q36.2.1), (5, .int q36.1), (4, .int (nI k9)), (3, .int q9.2.2), (2, .int q9.2.1), (1, .int q9.1), (0, .ref h)]) hx hb dL_areBarnsSo_194 hl (by decide) rfl (fun ls hl => ?_)
                        refine lv_iinc (v := nI (k130 + 1)) (lv' := [(11, .int (nI (k130 + 1))), (10, .int 1), (9, .int 1), (8, .int q36.2.2.2), (7, .int q36.2.2.1), (6, .int q36.2.1), (5, .int q36.1), (4, .int (nI k9)), (3, .int q9.2.2), (2, .int q9.2.1), (1, .int q9.1), (0, .ref h)]) hx hb dL_areBarnsSo_196 hl (k := 2) rfl (nI_add k130 1) (by decide) rfl (fun ls hl => ?_)
                        refine lv_goto (tgt := 130) hx hb dL_areBarnsSo_199 (by decide) ?_
                        exact ih130 (k130 + 1) (1, 1) (by rw [lp_L_areBarnsSo_130_s, ← hq130]; unfold st_L_areBarnsSo_130; rw [if_neg c_11, if_neg c_12]; try rfl) (by omega) (by omega) _ _ _ hP hD hS (lv_sub hl [0, 1, 2, 3, 4, 5, 6, 7, 8, 9, 10, 11] rfl)
                      · refine lv_aload_n hx hb dL_areBarnsSo_165 rfl (lv_at hl 11 rfl) ?_
                        refine lv_iload hx hb dL_areBarnsSo_166 (lv_at hl 1 rfl) ?_
                        refine lv_iconst (v := 0) hx hb dL_areBarnsSo_168 (by decide) ?_
                        refine call_W (w1 := fun _ => wX9 z h a b c9 hh hh1 d0 d1 d2 d3 t9 t91 r9 r91 r92 r93 v) len9 (fun _ => len9) (rV (As := [.int (nI k130), .int 0]) (rest := []) ⟨hx, hb, hml, hown, hts⟩ (c_X9_generator l D z tM tS h a b c9 hh hh1 d0 d1 d2 d3 t9 t91 r9 r91 r92 r93 v (nI k130) 0 H.size) (cwV 2 hts gL_areBarnsSo_X9_generator rfl rfl rfl (by decide +kernel) ⟨Nat.le_trans (by decide) hRf, Nat.le_trans (by decide) hRl⟩) (ev_ok tM tS) (e_go (ev_ok tM tS) hE hD hS hA (List.range 128) (gN len9)) hK hP hD (List.range 128) nd128 (gN len9) (va_recv hK hP (ci := 9) (q0 := 0) rfl rfl) rfl hl.1 rfl (Nat.le_of_ble_eq_true rfl) dL_areBarnsSo_169 ⟨Nat.zero_le _, Nat.zero_le _⟩) hK hP hD hS hA (fun zr zu H locs hw hP hD hS => ?_)
                        have hw : zr = (f_X9_generator v (nI k130) 0) := hw
                        subst hw
                        have hP : va_P D vwCl (wX9 z h a b c9 hh hh1 d0 d1 d2 d3 t9 t91 r9 r91 r92 r93 v) H := hP
                        have hD : va_D A (wX9 z h a b c9 hh hh1 d0 d1 d2 d3 t9 t91 r9 r91 r92 r93 v) := hD
                        refine lv_iload hx hb dL_areBarnsSo_172 (lv_at hl 7 rfl) ?_
                        refine lv_icmp_ne (tgt := 193) hx hb dL_areBarnsSo_174 (by decide) (fun c_13 => ?_) (fun c_13 => ?_)
                        · refine lv_iconst (v := 0) hx hb dL_areBarnsSo_193 (by decide) ?_
                          refine lv_istore (lv' := [(10, .int 0), (9, .int 1), (11, .int (nI k130)), (8, .int q36.2.2.2), (7, .int q36.2.2.1), (6, .int q36.2.1), (5, .int q36.1), (4, .int (nI k9)), (3, .int q9.2.2), (2, .int q9.2.1), (1, .int q9.1), (0, .ref h)]) hx hb dL_areBarnsSo_194 hl (by decide) rfl (fun ls hl => ?_)
                          refine lv_iinc (v := nI (k130 + 1)) (lv' := [(11, .int (nI (k130 + 1))), (10, .int 0), (9, .int 1), (8, .int q36.2.2.2), (7, .int q36.2.2.1), (6, .int q36.2.1), (5, .int q36.1), (4, .int (nI k9)), (3, .int q9.2.2), (2, .int q9.2.1), (1, .int q9.1), (0, .ref h)]) hx hb dL_areBarnsSo_196 hl (k := 2) rfl (nI_add k130 1) (by decide) rfl (fun ls hl => ?_)
                          refine lv_goto (tgt := 130) hx hb dL_areBarnsSo_199 (by decide) ?_
                          exact ih130 (k130 + 1) (1, 0) (by rw [lp_L_areBarnsSo_130_s, ← hq130]; unfold st_L_areBarnsSo_130; rw [if_neg c_11, if_pos c_12, if_neg c_13]; try rfl) (by omega) (by omega) _ _ _ hP hD hS (lv_sub hl [0, 1, 2, 3, 4, 5, 6, 7, 8, 9, 10, 11] rfl)
                        · refine lv_aload_n hx hb dL_areBarnsSo_177 rfl (lv_at hl 11 rfl) ?_
                          refine lv_iload hx hb dL_areBarnsSo_178 (lv_at hl 1 rfl) ?_
                          refine lv_iconst (v := 1) hx hb dL_areBarnsSo_180 (by decide) ?_
                          refine call_W (w1 := fun _ => wX9 z h a b c9 hh hh1 d0 d1 d2 d3 t9 t91 r9 r91 r92 r93 v) len9 (fun _ => len9) (rV (As := [.int (nI k130), .int 1]) (rest := []) ⟨hx, hb, hml, hown, hts⟩ (c_X9_generator l D z tM tS h a b c9 hh hh1 d0 d1 d2 d3 t9 t91 r9 r91 r92 r93 v (nI k130) 1 H.size) (cwV 2 hts gL_areBarnsSo_X9_generator rfl rfl rfl (by decide +kernel) ⟨Nat.le_trans (by decide) hRf, Nat.le_trans (by decide) hRl⟩) (ev_ok tM tS) (e_go (ev_ok tM tS) hE hD hS hA (List.range 128) (gN len9)) hK hP hD (List.range 128) nd128 (gN len9) (va_recv hK hP (ci := 9) (q0 := 0) rfl rfl) rfl hl.1 rfl (Nat.le_of_ble_eq_true rfl) dL_areBarnsSo_181 ⟨Nat.zero_le _, Nat.zero_le _⟩) hK hP hD hS hA (fun zr zu H locs hw hP hD hS => ?_)
                          have hw : zr = (f_X9_generator v (nI k130) 1) := hw
                          subst hw
                          have hP : va_P D vwCl (wX9 z h a b c9 hh hh1 d0 d1 d2 d3 t9 t91 r9 r91 r92 r93 v) H := hP
                          have hD : va_D A (wX9 z h a b c9 hh hh1 d0 d1 d2 d3 t9 t91 r9 r91 r92 r93 v) := hD
                          refine lv_iload hx hb dL_areBarnsSo_184 (lv_at hl 5 rfl) ?_
                          refine lv_icmp_lt (tgt := 193) hx hb dL_areBarnsSo_186 (by decide) (fun c_14 => ?_) (fun c_14 => ?_)
                          · refine lv_iconst (v := 0) hx hb dL_areBarnsSo_193 (by decide) ?_
                            refine lv_istore (lv' := [(10, .int 0), (9, .int 1), (11, .int (nI k130)), (8, .int q36.2.2.2), (7, .int q36.2.2.1), (6, .int q36.2.1), (5, .int q36.1), (4, .int (nI k9)), (3, .int q9.2.2), (2, .int q9.2.1), (1, .int q9.1), (0, .ref h)]) hx hb dL_areBarnsSo_194 hl (by decide) rfl (fun ls hl => ?_)
                            refine lv_iinc (v := nI (k130 + 1)) (lv' := [(11, .int (nI (k130 + 1))), (10, .int 0), (9, .int 1), (8, .int q36.2.2.2), (7, .int q36.2.2.1), (6, .int q36.2.1), (5, .int q36.1), (4, .int (nI k9)), (3, .int q9.2.2), (2, .int q9.2.1), (1, .int q9.1), (0, .ref h)]) hx hb dL_areBarnsSo_196 hl (k := 2) rfl (nI_add k130 1) (by decide) rfl (fun ls hl => ?_)
                            refine lv_goto (tgt := 130) hx hb dL_areBarnsSo_199 (by decide) ?_
                            exact ih130 (k130 + 1) (1, 0) (by rw [lp_L_areBarnsSo_130_s, ← hq130]; unfold st_L_areBarnsSo_130; rw [if_neg c_11, if_pos c_12, if_pos c_13, if_pos c_14]; try rfl) (by omega) (by omega) _ _ _ hP hD hS (lv_sub hl [0, 1, 2, 3, 4, 5, 6, 7, 8, 9, 10, 11] rfl)
                          · refine lv_iconst (v := 1) hx hb dL_areBarnsSo_189 (by decide) ?_
                            refine lv_goto (tgt := 194) hx hb dL_areBarnsSo_190 (by decide) ?_
                            refine lv_istore (lv' := [(10, .int 1), (9, .int 1), (11, .int (nI k130)), (8, .int q36.2.2.2), (7, .int q36.2.2.1), (6, .int q36.2.1), (5, .int q36.1), (4, .int (nI k9)), (3, .int q9.2.2), (2, .int q9.2.1), (1, .int q9.1), (0, .ref h)]) hx hb dL_areBarnsSo_194 hl (by decide) rfl (fun ls hl => ?_)
                            refine lv_iinc (v := nI (k130 + 1)) (lv' := [(11, .int (nI (k130 + 1))), (10, .int 1), (9, .int 1), (8, .int q36.2.2.2), (7, .int q36.2.2.1), (6, .int q36.2.1), (5, .int q36.1), (4, .int (nI k9)), (3, .int q9.2.2), (2, .int q9.2.1), (1, .int q9.1), (0, .ref h)]) hx hb dL_areBarnsSo_196 hl (k := 2) rfl (nI_add k130 1) (by decide) rfl (fun ls hl => ?_)
                            refine lv_goto (tgt := 130) hx hb dL_areBarnsSo_199 (by decide) ?_
                            exact ih130 (k130 + 1) (1, 1) (by rw [lp_L_areBarnsSo_130_s, ← hq130]; unfold st_L_areBarnsSo_130; rw [if_neg c_11, if_pos c_12, if_pos c_13, if_neg c_14]; try rfl) (by omega) (by omega) _ _ _ hP hD hS (lv_sub hl [0, 1, 2, 3, 4, 5, 6, 7, 8, 9, 10, 11] rfl)
                    · refine lv_aload_n hx hb dL_areBarnsSo_141 rfl (lv_at hl 11 rfl) ?_
                      refine lv_iload hx hb dL_areBarnsSo_142 (lv_at hl 0 rfl) ?_
                      refine lv_iconst (v := 0) hx hb dL_areBarnsSo_144 (by decide) ?_
                      refine call_W (w1 := fun _ => wX9 z h a b c9 hh hh1 d0 d1 d2 d3 t9 t91 r9 r91 r92 r93 v) len9 (fun _ => len9) (rV (As := [.int (nI k130), .int 0]) (rest := []) ⟨hx, hb, hml, hown, hts⟩ (c_X9_generator l D z tM tS h a b c9 hh hh1 d0 d1 d2 d3 t9 t91 r9 r91 r92 r93 v (nI k130) 0 H.size) (cwV 2 hts gL_areBarnsSo_X9_generator rfl rfl rfl (by decide +kernel) ⟨Nat.le_trans (by decide) hRf, Nat.le_trans (by decide) hRl⟩) (ev_ok tM tS) (e_go (ev_ok tM tS) hE hD hS hA (List.range 128) (gN len9)) hK hP hD (List.range 128) nd128 (gN len9) (va_recv hK hP (ci := 9) (q0 := 0) rfl rfl) rfl hl.1 rfl (Nat.le_of_ble_eq_true rfl) dL_areBarnsSo_145 ⟨Nat.zero_le _, Nat.zero_le _⟩) hK hP hD hS hA (fun zr zu H locs hw hP hD hS => ?_)
                      have hw : zr = (f_X9_generator v (nI k130) 0) := hw
                      subst hw
                      have hP : va_P D vwCl (wX9 z h a b c9 hh hh1 d0 d1 d2 d3 t9 t91 r9 r91 r92 r93 v) H := hP
                      have hD : va_D A (wX9 z h a b c9 hh hh1 d0 d1 d2 d3 t9 t91 r9 r91 r92 r93 v) := hD
                      refine lv_iload hx hb dL_areBarnsSo_148 (lv_at hl 7 rfl) ?_
                      refine lv_icmp_ne (tgt := 157) hx hb dL_areBarnsSo_150 (by decide) (fun c_15 => ?_) (fun c_15 => ?_)
                      · refine lv_iconst (v := 0) hx hb dL_areBarnsSo_157 (by decide) ?_
                        refine lv_istore (lv' := [(9, .int 0), (11, .int (nI k130)), (10, .int q130.2), (8, .int q36.2.2.2), (7, .int q36.2.2.1), (6, .int q36.2.1), (5, .int q36.1), (4, .int (nI k9)), (3, .int q9.2.2), (2, .int q9.2.1), (1, .int q9.1), (0, .ref h)]) hx hb dL_areBarnsSo_158 hl (by decide) rfl (fun ls hl => ?_)
                        refine lv_iload hx hb dL_areBarnsSo_160 (lv_at hl 2 rfl) ?_
                        refine lv_if_ne (tgt := 189) hx hb dL_areBarnsSo_162 (by decide) (fun c_16 => ?_) (fun c_16 => ?_)
                        · refine lv_iconst (v := 1) hx hb dL_areBarnsSo_189 (by decide) ?_
                          refine lv_goto (tgt := 194) hx hb dL_areBarnsSo_190 (by decide) ?_
                          refine lv_istore (lv' := [(10, .int 1), (9, .int 0), (11, .int (nI k130)), (8, .int q36.2.2.2), (7, .int q36.2.2.1), (6, .int q36.2.1), (5, .int q36.1), (4, .int (nI k9)), (3, .int q9.2.2), (2, .int q9.2.1), (1, .int q9.1), (0, .ref h)]) hx hb dL_areBarnsSo_194 hl (by decide) rfl (fun ls hl => ?_)
                          refine lv_iinc (v := nI (k130 + 1)) (lv' := [(11, .int (nI (k130 + 1))), (10, .int 1), (9, .int 0), (8, .int q36.2.2.2), (7, .int q36.2.2.1), (6, .int q36.2.1), (5, .int q36.1), (4, .int (nI k9)), (3, .int q9.2.2), (2, .int q9.2.1), (1, .int q9.1), (0, .ref h)]) hx hb dL_areBarnsSo_196 hl (k := 2) rfl (nI_add k130 1) (by decide) rfl (fun ls hl => ?_)
                          refine lv_goto (tgt := 130) hx hb dL_areBarnsSo_199 (by decide) ?_
                          exact ih130 (k130 + 1) (0, 1) (by rw [lp_L_areBarnsSo_130_s, ← hq130]; unfold st_L_areBarnsSo_130; rw [if_pos c_11, if_neg c_15, if_neg c_16]; try rfl) (by omega) (by omega) _ _ _ hP hD hS (lv_sub hl [0, 1, 2, 3, 4, 5, 6, 7, 8, 9, 10, 11] rfl)
                        · refine lv_aload_n hx hb dL_areBarnsSo_165 rfl (lv_at hl 11 rfl) ?_
                          refine lv_iload hx hb dL_areBarnsSo_166 (lv_at hl 1 rfl) ?_
                          refine lv_iconst (v := 0) hx hb dL_areBarnsSo_168 (by decide) ?_
                          refine call_W (w1 := fun _ => wX9 z h a b c9 hh hh1 d0 d1 d2 d3 t9 t91 r9 r91 r92 r93 v) len9 (fun _ => len9) (rV (As := [.int (nI k130), .int 0]) (rest := []) ⟨hx, hb, hml, hown, hts⟩ (c_X9_generator l D z tM tS h a b c9 hh hh1 d0 d1 d2 d3 t9 t91 r9 r91 r92 r93 v (nI k130) 0 H.size) (cwV 2 hts gL_areBarnsSo_X9_generator rfl rfl rfl (by decide +kernel) ⟨Nat.le_trans (by decide) hRf, Nat.le_trans (by decide) hRl⟩) (ev_ok tM tS) (e_go (ev_ok tM tS) hE hD hS hA (List.range 128) (gN len9)) hK hP hD (List.range 128) nd128 (gN len9) (va_recv hK hP (ci := 9) (q0 := 0) rfl rfl) rfl hl.1 rfl (Nat.le_of_ble_eq_true rfl) dL_areBarnsSo_169 ⟨Nat.zero_le _, Nat.zero_le _⟩) hK hP hD hS hA (fun zr zu H locs hw hP hD hS => ?_)
                          have hw : zr = (f_X9_generator v (nI k130) 0) := hw
                          subst hw
                          have hP : va_P D vwCl (wX9 z h a b c9 hh hh1 d0 d1 d2 d3 t9 t91 r9 r91 r92 r93 v) H := hP
                          have hD : va_D A (wX9 z h a b c9 hh hh1 d0 d1 d2 d3 t9 t91 r9 r91 r92 r93 v) := hD
                          refine lv_iload hx hb dL_areBarnsSo_172 (lv_at hl 7 rfl) ?_
                          refine lv_icmp_ne (tgt := 193) hx hb dL_areBarnsSo_174 (by decide) (fun c_17 => ?_) (fun c_17 => absurd c_17 c_15)
                          refine lv_iconst (v := 0) hx hb dL_areBarnsSo_193 (by decide) ?_
                          refine lv_istore (lv' := [(10, .int 0), (9, .int 0), (11, .int (nI k130)), (8, .int q36.2.2.2), (7, .int q36.2.2.1), (6, .int q36.2.1), (5, .int q36.1), (4, .int (nI k9)), (3, .int q9.2.2), (2, .int q9.2.1), (1, .int q9.1), (0, .ref h)]) hx hb dL_areBarnsSo_194 hl (by decide) rfl (fun ls hl => ?_)
                          refine lv_iinc (v := nI (k130 + 1)) (lv' := [(11, .int (nI (k130 + 1))), (10, .int 0), (9, .int 0), (8, .int q36.2.2.2), (7, .int q36.2.2.1), (6, .int q36.2.1), (5, .int q36.1), (4, .int (nI k9)), (3, .int q9.2.2), (2, .int q9.2.1), (1, .int q9.1), (0, .ref h)]) hx hb dL_areBarnsSo_196 hl (k := 2) rfl (nI_add k130 1) (by decide) rfl (fun ls hl => ?_)
                          refine lv_goto (tgt := 130) hx hb dL_areBarnsSo_199 (by decide) ?_
                          exact ih130 (k130 + 1) (0, 0) (by rw [lp_L_areBarnsSo_130_s, ← hq130]; unfold st_L_areBarnsSo_130; rw [if_pos c_11, if_neg c_15, if_pos c_16]; try rfl) (by omega) (by omega) _ _ _ hP hD hS (lv_sub hl [0, 1, 2, 3, 4, 5, 6, 7, 8, 9, 10, 11] rfl)
                      · refine lv_iconst (v := 1) hx hb dL_areBarnsSo_153 (by decide) ?_
                        refine lv_goto (tgt := 158) hx hb dL_areBarnsSo_154 (by decide) ?_
                        refine lv_istore (lv' := [(9, .int 1), (11, .int (nI k130)), (10, .int q130.2), (8, .int q36.2.2.2), (7, .int q36.2.2.1), (6, .int q36.2.1), (5, .int q36.1), (4, .int (nI k9)), (3, .int q9.2.2), (2, .int q9.2.1), (1, .int q9.1), (0, .ref h)]) hx hb dL_areBarnsSo_158 hl (by decide) rfl (fun ls hl => ?_)
                        refine lv_iload hx hb dL_areBarnsSo_160 (lv_at hl 2 rfl) ?_
                        refine lv_if_ne (tgt := 189) hx hb dL_areBarnsSo_162 (by decide) (fun c_18 => ?_) (fun c_18 => ?_)
                        · refine lv_iconst (v := 1) hx hb dL_areBarnsSo_189 (by decide) ?_
                          refine lv_goto (tgt := 194) hx hb dL_areBarnsSo_190 (by decide) ?_
                          refine lv_istore (lv' := [(10, .int 1), (9, .int 1), (11, .int (nI k130)), (8, .int q36.2.2.2), (7, .int q36.2.2.1), (6, .int q36.2.1), (5, .int q36.1), (4, .int (nI k9)), (3, .int q9.2.2), (2, .int q9.2.1), (1, .int q9.1), (0, .ref h)]) hx hb dL_areBarnsSo_194 hl (by decide) rfl (fun ls hl => ?_)
                          refine lv_iinc (v := nI (k130 + 1)) (lv' := [(11, .int (nI (k130 + 1))), (10, .int 1), (9, .int 1), (8, .int q36.2.2.2), (7, .int q36.2.2.1), (6, .int q36.2.1), (5, .int q36.1), (4, .int (nI k9)), (3, .int q9.2.2), (2, .int q9.2.1), (1, .int q9.1), (0, .ref h)]) hx hb dL_areBarnsSo_196 hl (k := 2) rfl (nI_add k130 1) (by decide) rfl (fun ls hl => ?_)
                          refine lv_goto (tgt := 130) hx hb dL_areBarnsSo_199 (by decide) ?_
                          exact ih130 (k130 + 1) (1, 1) (by rw [lp_L_areBarnsSo_130_s, ← hq130]; unfold st_L_areBarnsSo_130; rw [if_pos c_11, if_pos c_15, if_neg c_18]; try rfl) (by omega) (by omega) _ _ _ hP hD hS (lv_sub hl [0, 1, 2, 3, 4, 5, 6, 7, 8, 9, 10, 11] rfl)
                        · refine lv_aload_n hx hb dL_areBarnsSo_165 rfl (lv_at hl 11 rfl) ?_
                          refine lv_iload hx hb dL_areBarnsSo_166 (lv_at hl 1 rfl) ?_
                          refine lv_iconst (v := 0) hx hb dL_areBarnsSo_168 (by decide) ?_
                          refine call_W (w1 := fun _ => wX9 z h a b c9 hh hh1 d0 d1 d2 d3 t9 t91 r9 r91 r92 r93 v) len9 (fun _ => len9) (rV (As := [.int (nI k130), .int 0]) (rest := []) ⟨hx, hb, hml, hown, hts⟩ (c_X9_generator l D z tM tS h a b c9 hh hh1 d0 d1 d2 d3 t9 t91 r9 r91 r92 r93 v (nI k130) 0 H.size) (cwV 2 hts gL_areBarnsSo_X9_generator rfl rfl rfl (by decide +kernel) ⟨Nat.le_trans (by decide) hRf, Nat.le_trans (by decide) hRl⟩) (ev_ok tM tS) (e_go (ev_ok tM tS) hE hD hS hA (List.range 128) (gN len9)) hK hP hD (List.range 128) nd128 (gN len9) (va_recv hK hP (ci := 9) (q0 := 0) rfl rfl) rfl hl.1 rfl (Nat.le_of_ble_eq_true rfl) dL_areBarnsSo_169 ⟨Nat.zero_le _, Nat.zero_le _⟩) hK hP hD hS hA (fun zr zu H locs hw hP hD hS => ?_)
                          have hw : zr = (f_X9_generator v (nI k130) 0) := hw
                          subst hw
                          have hP : va_P D vwCl (wX9 z h a b c9 hh hh1 d0 d1 d2 d3 t9 t91 r9 r91 r92 r93 v) H := hP
                          have hD : va_D A (wX9 z h a b c9 hh hh1 d0 d1 d2 d3 t9 t91 r9 r91 r92 r93 v) := hD
                          refine lv_iload hx hb dL_areBarnsSo_172 (lv_at hl 7 rfl) ?_
                          refine lv_icmp_ne (tgt := 193) hx hb dL_areBarnsSo_174 (by decide) (fun c_19 => absurd c_15 c_19) (fun c_19 => ?_)
                          refine lv_aload_n hx hb dL_areBarnsSo_177 rfl (lv_at hl 11 rfl) ?_
                          refine lv_iload hx hb dL_areBarnsSo_178 (lv_at hl 1 rfl) ?_
                          refine lv_iconst (v := 1) hx hb dL_areBarnsSo_180 (by decide) ?_
                          refine call_W (w1 := fun _ => wX9 z h a b c9 hh hh1 d0 d1 d2 d3 t9 t91 r9 r91 r92 r93 v) len9 (fun _ => len9) (rV (As := [.int (nI k130), .int 1]) (rest := []) ⟨hx, hb, hml, hown, hts⟩ (c_X9_generator l D z tM tS h a b c9 hh hh1 d0 d1 d2 d3 t9 t91 r9 r91 r92 r93 v (nI k130) 1 H.size) (cwV 2 hts gL_areBarnsSo_X9_generator rfl rfl rfl (by decide +kernel) ⟨Nat.le_trans (by decide) hRf, Nat.le_trans (by decide) hRl⟩) (ev_ok tM tS) (e_go (ev_ok tM tS) hE hD hS hA (List.range 128) (gN len9)) hK hP hD (List.range 128) nd128 (gN len9) (va_recv hK hP (ci := 9) (q0 := 0) rfl rfl) rfl hl.1 rfl (Nat.le_of_ble_eq_true rfl) dL_areBarnsSo_181 ⟨Nat.zero_le _, Nat.zero_le _⟩) hK hP hD hS hA (fun zr zu H locs hw hP hD hS => ?_)
                          have hw : zr = (f_X9_generator v (nI k130) 1) := hw
                          subst hw
                          have hP : va_P D vwCl (wX9 z h a b c9 hh hh1 d0 d1 d2 d3 t9 t91 r9 r91 r92 r93 v) H := hP
                          have hD : va_D A (wX9 z h a b c9 hh hh1 d0 d1 d2 d3 t9 t91 r9 r91 r92 r93 v) := hD
                          refine lv_iload hx hb dL_areBarnsSo_184 (lv_at hl 5 rfl) ?_
                          refine lv_icmp_lt (tgt := 193) hx hb dL_areBarnsSo_186 (by decide) (fun c_20 => ?_) (fun c_20 => ?_)
                          · refine lv_iconst (v := 0) hx hb dL_areBarnsSo_193 (by decide) ?_
                            refine lv_istore (lv' := [(10, .int 0), (9, .int 1), (11, .int (nI k130)), (8, .int q36.2.2.2), (7, .int q36.2.2.1), (6, .int q36.2.1), (5, .int q36.1), (4, .int (nI k9)), (3, .int q9.2.2), (2, .int q9.2.1), (1, .int q9.1), (0, .ref h)]) hx hb dL_areBarnsSo_194 hl (by decide) rfl (fun ls hl => ?_)
                            refine lv_iinc (v := nI (k130 + 1)) (lv' := [(11, .int (nI (k130 + 1))), (10, .int 0), (9, .int 1), (8, .int q36.2.2.2), (7, .int q36.2.2.1), (6, .int q36.2.1), (5, .int q36.1), (4, .int (nI k9)), (3, .int q9.2.2), (2, .int q9.2.1), (1, .int q9.1), (0, .ref h)]) hx hb dL_areBarnsSo_196 hl (k := 2) rfl (nI_add k130 1) (by decide) rfl (fun ls hl => ?_)
                            refine lv_goto (tgt := 130) hx hb dL_areBarnsSo_199 (by decide) ?_
                            exact ih130 (k130 + 1) (1, 0) (by rw [lp_L_areBarnsSo_130_s, ← hq130]; unfold st_L_areBarnsSo_130; rw [if_pos c_11, if_pos c_15, if_pos c_18, if_pos c_20]; try rfl) (by omega) (by omega) _ _ _ hP hD hS (lv_sub hl [0, 1, 2, 3, 4, 5, 6, 7, 8, 9, 10, 11] rfl)
                          · refine lv_iconst (v := 1) hx hb dL_areBarnsSo_189 (by decide) ?_
                            refine lv_goto (tgt := 194) hx hb dL_areBarnsSo_190 (by decide) ?_
                            refine lv_istore (lv' := [(10, .int 1), (9, .int 1), (11, .int (nI k130)), (8, .int q36.2.2.2), (7, .int q36.2.2.1), (6, .int q36.2.1), (5, .int q36.1), (4, .int (nI k9)), (3, .int q9.2.2), (2, .int q9.2.1), (1, .int q9.1), (0, .ref h)]) hx hb dL_areBarnsSo_194 hl (by decide) rfl (fun ls hl => ?_)
                            refine lv_iinc (v := nI (k130 + 1)) (lv' := [(11, .int (nI (k130 + 1))), (10, .int 1), (9, .int 1), (8, .int q36.2.2.2), (7, .int q36.2.2.1), (6, .int q36.2.1), (5, .int q36.1), (4, .int (nI k9)), (3, .int q9.2.2), (2, .int q9.2.1), (1, .int q9.1), (0, .ref h)]) hx hb dL_areBarnsSo_196 hl (k := 2) rfl (nI_add k130 1) (by decide) rfl (fun ls hl => ?_)
                            refine lv_goto (tgt := 130) hx hb dL_areBarnsSo_199 (by decide) ?_
                            exact ih130 (k130 + 1) (1, 1) (by rw [lp_L_areBarnsSo_130_s, ← hq130]; unfold st_L_areBarnsSo_130; rw [if_pos c_11, if_pos c_15, if_pos c_18, if_neg c_20]; try rfl) (by omega) (by omega) _ _ _ hP hD hS (lv_sub hl [0, 1, 2, 3, 4, 5, 6, 7, 8, 9, 10, 11] rfl)
                  · obtain rfl : 2 = k130 := by omega
                    refine lv_icmp_ge (tgt := 202) hx hb dL_areBarnsSo_133 (by decide) (fun c_10 => ?_) (fun c_10 => absurd (nI_le (a := 2) (b := 2) (by omega) (by omega)) c_10)
                    have hP : va_P D vwCl (wX9 z h a b c9 hh hh1 d0 d1 d2 d3 t9 t91 r9 r91 r92 r93 v) H := hP
                    have hD : va_D A (wX9 z h a b c9 hh hh1 d0 d1 d2 d3 t9 t91 r9 r91 r92 r93 v) := hD
                    refine lv_iload hx hb dL_areBarnsSo_202 (lv_at hl 6 rfl) ?_
                    refine lv_if_ne (tgt := 211) hx hb dL_areBarnsSo_204 (by decide) (fun c_21 => ?_) (fun c_21 => ?_)
                    · refine lv_aload_n hx hb dL_areBarnsSo_211 rfl (lv_at hl 11 rfl) ?_
                      refine lv_iload hx hb dL_areBarnsSo_212 (lv_at hl 7 rfl) ?_
                      refine lv_iconst (v := 1) hx hb dL_areBarnsSo_214 (by decide) ?_
                      refine call_W (w1 := fun _ => wX9 z h a b c9 hh hh1 d0 d1 d2 d3 t9 t91 r9 r91 r92 r93 v) len9 (fun _ => len9) (rV (As := [.int (nI k9), .int 1]) (rest := []) ⟨hx, hb, hml, hown, hts⟩ (c_X9_barn l D z tM tS h a b c9 hh hh1 d0 d1 d2 d3 t9 t91 r9 r91 r92 r93 v (nI k9) 1 H.size) (cwV 2 hts gL_areBarnsSo_X9_barn rfl rfl rfl (by decide +kernel) ⟨Nat.le_trans (by decide) hRf, Nat.le_trans (by decide) hRl⟩) (ev_ok tM tS) (e_go (ev_ok tM tS) hE hD hS hA (List.range 128) (gN len9)) hK hP hD (List.range 128) nd128 (gN len9) (va_recv hK hP (ci := 9) (q0 := 0) rfl rfl) rfl hl.1 rfl (Nat.le_of_ble_eq_true rfl) dL_areBarnsSo_215 ⟨Nat.zero_le _, Nat.zero_le _⟩) hK hP hD hS hA (fun zr zu H locs hw hP hD hS => ?_)
                      have hw : zr = (f_X9_barn v (nI k9) 1) := hw
                      subst hw
                      have hP : va_P D vwCl (wX9 z h a b c9 hh hh1 d0 d1 d2 d3 t9 t91 r9 r91 r92 r93 v) H := hP
                      have hD : va_D A (wX9 z h a b c9 hh hh1 d0 d1 d2 d3 t9 t91 r9 r91 r92 r93 v) := hD
                      refine lv_iload hx hb dL_areBarnsSo_218 (lv_at hl 4 rfl) ?_
                      refine lv_imul hx hb dL_areBarnsSo_220 ?_
                      refine lv_iload hx hb dL_areBarnsSo_221 (lv_at hl 6 rfl) ?_
                      refine lv_idiv hx hb dL_areBarnsSo_223 (by assumption) ?_
                      refine lv_iload hx hb dL_areBarnsSo_224 (lv_at hl 3 rfl) ?_
                      refine lv_bipush (v := 10) hx hb dL_areBarnsSo_226 (by decide) ?_
                      refine lv_idiv hx hb dL_areBarnsSo_228 (by decide) ?_
                      refine lv_isub hx hb dL_areBarnsSo_229 ?_
                      refine lv_istore (lv' := [(11, .int ((((f_X9_barn v (nI k9) 1) * q36.2.2.1) / q36.1) - (q36.2.2.2 / 10))), (10, .int q130.2), (9, .int q130.1), (8, .int q36.2.2.2), (7, .int q36.2.2.1), (6, .int q36.2.1), (5, .int q36.1), (4, .int (nI k9)), (3, .int q9.2.2), (2, .int q9.2.1), (1, .int q9.1), (0, .ref h)]) hx hb dL_areBarnsSo_230 hl (by decide) rfl (fun ls hl => ?_)
                      refine lv_aload_n hx hb dL_areBarnsSo_232 rfl (lv_at hl 11 rfl) ?_
                      refine lv_iload hx hb dL_areBarnsSo_233 (lv_at hl 7 rfl) ?_
                      refine lv_bipush (v := 6) hx hb dL_areBarnsSo_235 (by decide) ?_
                      refine call_W (w1 := fun _ => wX9 z h a b c9 hh hh1 d0 d1 d2 d3 t9 t91 r9 r91 r92 r93 v) len9 (fun _ => len9) (rV (As := [.int (nI k9), .int 6]) (rest := []) ⟨hx, hb, hml, hown, hts⟩ (c_X9_barn l D z tM tS h a b c9 hh hh1 d0 d1 d2 d3 t9 t91 r9 r91 r92 r93 v (nI k9) 6 H.size) (cwV 2 hts gL_areBarnsSo_X9_barn rfl rfl rfl (by decide +kernel) ⟨Nat.le_trans (by decide) hRf, Nat.le_trans (by decide) hRl⟩) (ev_ok tM tS) (e_go (ev_ok tM tS) hE hD hS hA (List.range 128) (gN len9)) hK hP hD (List.range 128) nd128 (gN len9) (va_recv hK hP (ci := 9) (q0 := 0) rfl rfl) rfl hl.1 rfl (Nat.le_of_ble_eq_true rfl) dL_areBarnsSo_237 ⟨Nat.zero_le _, Nat.zero_le _⟩) hK hP hD hS hA (fun zr zu H locs hw hP hD hS => ?_)
                      have hw : zr = (f_X9_barn v (nI k9) 6) := hw
                      subst hw
                      have hP : va_P D vwCl (wX9 z h a b c9 hh hh1 d0 d1 d2 d3 t9 t91 r9 r91 r92 r93 v) H := hP
                      have hD : va_D A (wX9 z h a b c9 hh hh1 d0 d1 d2 d3 t9 t91 r9 r91 r92 r93 v) := hD
                      refine lv_istore (lv' := [(12, .int (f_X9_barn v (nI k9) 6)), (11, .int ((((f_X9_barn v (nI k9) 1) * q36.2.2.1) / q36.1) - (q36.2.2.2 / 10))), (10, .int q130.2), (9, .int q130.1), (8, .int q36.2.2.2), (7, .int q36.2.2.1), (6, .int q36.2.1), (5, .int q36.1), (4, .int (nI k9)), (3, .int q9.2.2), (2, .int q9.2.1), (1, .int q9.1), (0, .ref h)]) hx hb dL_areBarnsSo_240 hl (by decide) rfl (fun ls hl => ?_)
                      refine lv_iload_n hx hb dL_areBarnsSo_242 rfl (lv_at hl 11 rfl) ?_
                      refine lv_aload_n hx hb dL_areBarnsSo_243 rfl (lv_at hl 12 rfl) ?_
                      refine lv_iload hx hb dL_areBarnsSo_244 (lv_at hl 8 rfl) ?_
                      refine lv_bipush (v := 8) hx hb dL_areBarnsSo_246 (by decide) ?_
                      refine call_W (w1 := fun _ => wX9 z h a b c9 hh hh1 d0 d1 d2 d3 t9 t91 r9 r91 r92 r93 v) len9 (fun _ => len9) (rV (As := [.int (nI k9), .int 8]) (rest := [.int q9.1]) ⟨hx, hb, hml, hown, hts⟩ (c_X9_barn l D z tM tS h a b c9 hh hh1 d0 d1 d2 d3 t9 t91 r9 r91 r92 r93 v (nI k9) 8 H.size) (cwV 2 hts gL_areBarnsSo_X9_barn rfl rfl rfl (by decide +kernel) ⟨Nat.le_trans (by decide) hRf, Nat.le_trans (by decide) hRl⟩) (ev_ok tM tS) (e_go (ev_ok tM tS) hE hD hS hA (List.range 128) (gN len9)) hK hP hD (List.range 128) nd128 (gN len9) (va_recv hK hP (ci := 9) (q0 := 0) rfl rfl) rfl hl.1 rfl (Nat.le_of_ble_eq_true rfl) dL_areBarnsSo_248 ⟨Nat.zero_le _, Nat.zero_le _⟩) hK hP hD hS hA (fun zr zu H locs hw hP hD hS => ?_)
                      have hw : zr = (f_X9_barn v (nI k9) 8) := hw
                      subst hw
                      have hP : va_P D vwCl (wX9 z h a b c9 hh hh1 d0 d1 d2 d3 t9 t91 r9 r91 r92 r93 v) H := hP
                      have hD : va_D A (wX9 z h a b c9 hh hh1 d0 d1 d2 d3 t9 t91 r9 r91 r92 r93 v) := hD
                      refine lv_iadd hx hb dL_areBarnsSo_251 ?_
                      refine lv_istore_n (lv' := [(1, .int (q9.1 + (f_X9_barn v (nI k9) 8))), (12, .int (f_X9_barn v (nI k9) 6)), (11, .int ((((f_X9_barn v (nI k9) 1) * q36.2.2.1) / q36.1) - (q36.2.2.2 / 10))), (10, .int q130.2), (9, .int q130.1), (8, .int q36.2.2.2), (7, .int q36.2.2.1), (6, .int q36.2.1), (5, .int q36.1), (4, .int (nI k9)), (3, .int q9.2.2), (2, .int q9.2.1), (0, .ref h)]) hx hb dL_areBarnsSo_252 rfl hl (by decide) rfl (fun ls hl => ?_)
                      refine lv_iload_n hx hb dL_areBarnsSo_253 rfl (lv_at hl 11 rfl) ?_
                      refine lv_aload_n hx hb dL_areBarnsSo_254 rfl (lv_at hl 12 rfl) ?_
                      refine lv_iload hx hb dL_areBarnsSo_255 (lv_at hl 9 rfl) ?_
                      refine lv_bipush (v := 7) hx hb dL_areBarnsSo_257 (by decide) ?_
                      refine call_W (w1 := fun _ => wX9 z h a b c9 hh hh1 d0 d1 d2 d3 t9 t91 r9 r91 r92 r93 v) len9 (fun _ => len9) (rV (As := [.int (nI k9), .int 7]) (rest := [.int q9.2.1]) ⟨hx, hb, hml, hown, hts⟩ (c_X9_barn l D z tM tS h a b c9 hh hh1 d0 d1 d2 d3 t9 t91 r9 r91 r92 r93 v (nI k9) 7 H.size) (cwV 2 hts gL_areBarnsSo_X9_barn rfl rfl rfl (by decide +kernel) ⟨Nat.le_trans (by decide) hRf, Nat.le_trans (by decide) hRl⟩) (ev_ok tM tS) (e_go (ev_ok tM tS) hE hD hS hA (List.range 128) (gN len9)) hK hP hD (List.range 128) nd128 (gN len9) (va_recv hK hP (ci := 9) (q0 := 0) rfl rfl) rfl hl.1 rfl (Nat.le_of_ble_eq_true rfl) dL_areBarnsSo_259 ⟨Nat.zero_le _, Nat.zero_le _⟩) hK hP hD hS hA (fun zr zu H locs hw hP hD hS => ?_)
                      have hw : zr = (f_X9_barn v (nI k9) 7) := hw
                      subst hw
                      have hP : va_P D vwCl (wX9 z h a b c9 hh hh1 d0 d1 d2 d3 t9 t91 r9 r91 r92 r93 v) H := hP
                      have hD : va_D A (wX9 z h a b c9 hh hh1 d0 d1 d2 d3 t9 t91 r9 r91 r92 r93 v) := hD
                      refine lv_iadd hx hb dL_areBarnsSo_262 ?_
                      refine lv_istore_n (lv' := [(2, .int (q9.2.1 + (f_X9_barn v (nI k9) 7))), (1, .int (q9.1 + (f_X9_barn v (nI k9) 8))), (12, .int (f_X9_barn v (nI k9) 6)), (11, .int ((((f_X9_barn v (nI k9) 1) * q36.2.2.1) / q36.1) - (q36.2.2.2 / 10))), (10, .int q130.2), (9, .int q130.1), (8, .int q36.2.2.2), (7, .int q36.2.2.1), (6, .int q36.2.1), (5, .int q36.1), (4, .int (nI k9)), (3, .int q9.2.2), (0, .ref h)]) hx hb dL_areBarnsSo_263 rfl hl (by decide) rfl (fun ls hl => ?_)
                      refine lv_iload_n hx hb dL_areBarnsSo_264 rfl (lv_at hl 11 rfl) ?_
                      refine lv_if_eq (tgt := 394) hx hb dL_areBarnsSo_265 (by decide) (fun c_22 => ?_) (fun c_22 => ?_)
                      · refine lv_iconst (v := 0) hx hb dL_areBarnsSo_394 (by decide) ?_
                        refine lv_istore_n (lv' := [(3, .int 0), (2, .int (q9.2.1 + (f_X9_barn v (nI k9) 7))), (1, .int (q9.1 + (f_X9_barn v (nI k9) 8))), (12, .int (f_X9_barn v (nI k9) 6)), (11, .int ((((f_X9_barn v (nI k9) 1) * q36.2.2.1) / q36.1) - (q36.2.2.2 / 10))), (10, .int q130.2), (9, .int q130.1), (8, .int q36.2.2.2), (7, .int q36.2.2.1), (6, .int q36.2.1), (5, .int q36.1), (4, .int (nI k9)), (0, .ref h)]) hx hb dL_areBarnsSo_395 rfl hl (by decide) rfl (fun ls hl => ?_)
                        refine lv_iinc (v := nI (k9 + 1)) (lv' := [(4, .int (nI (k9 + 1))), (3, .int 0), (2, .int (q9.2.1 + (f_X9_barn v (nI k9) 7))), (1, .int (q9.1 + (f_X9_barn v (nI k9) 8))), (12, .int (f_X9_barn v (nI k9) 6)), (11, .int ((((f_X9_barn v (nI k9) 1) * q36.2.2.1) / q36.1) - (q36.2.2.2 / 10))), (10, .int q130.2), (9, .int q130.1), (8, .int q36.2.2.2), (7, .int q36.2.2.1), (6, .int q36.2.1), (5, .int q36.1), (0, .ref h)]) hx hb dL_areBarnsSo_396 hl (k := 11) rfl (nI_add k9 1) (by decide) rfl (fun ls hl => ?_)
                        refine lv_goto (tgt := 9) hx hb dL_areBarnsSo_399 (by decide) ?_
                        exact ih9 (k9 + 1) ((q9.1 + (f_X9_barn v (nI k9) 8)), (q9.2.1 + (f_X9_barn v (nI k9) 7)), 0) (by rw [lp_L_areBarnsSo_9_s, ← hq9]; unfold st_L_areBarnsSo_9; rw [← hq36]; unfold f_L_areBarnsSo_36_x; rw [← hq130]; unfold f_L_areBarnsSo_130_x; rw [if_neg c_21, if_pos c_22]; try rfl) (by omega) (by omega) _ _ _ hP hD hS (lv_sub hl [0, 1, 2, 3, 12] rfl)
                      · refine lv_aload_n hx hb dL_areBarnsSo_268 rfl (lv_at hl 12 rfl) ?_
                        refine lv_iload hx hb dL_areBarnsSo_269 (lv_at hl 10 rfl) ?_
                        refine lv_iconst (v := 3) hx hb dL_areBarnsSo_271 (by decide) ?_
                        refine call_W (w1 := fun _ => wX9 z h a b c9 hh hh1 d0 d1 d2 d3 t9 t91 r9 r91 r92 r93 v) len9 (fun _ => len9) (rV (As := [.int (nI k9), .int 3]) (rest := []) ⟨hx, hb, hml, hown, hts⟩ (c_X9_barn l D z tM tS h a b c9 hh hh1 d0 d1 d2 d3 t9 t91 r9 r91 r92 r93 v (nI k9) 3 H.size) (cwV 2 hts gL_areBarnsSo_X9_barn rfl rfl rfl (by decide +kernel) ⟨Nat.le_trans (by decide) hRf, Nat.le_trans (by decide) hRl⟩) (ev_ok tM tS) (e_go (ev_ok tM tS) hE hD hS hA (List.range 128) (gN len9)) hK hP hD (List.range 128) nd128 (gN len9) (va_recv hK hP (ci := 9) (q0 := 0) rfl rfl) rfl hl.1 rfl (Nat.le_of_ble_eq_true rfl) dL_areBarnsSo_272 ⟨Nat.zero_le _, Nat.zero_le _⟩) hK hP hD hS hA (fun zr zu H locs hw hP hD hS => ?_)
                        have hw : zr = (f_X9_barn v (nI k9) 3) := hw
                        subst hw
                        have hP : va_P D vwCl (wX9 z h a b c9 hh hh1 d0 d1 d2 d3 t9 t91 r9 r91 r92 r93 v) H := hP
                        have hD : va_D A (wX9 z h a b c9 hh hh1 d0 d1 d2 d3 t9 t91 r9 r91 r92 r93 v) := hD
                        refine lv_iload hx hb dL_areBarnsSo_275 (lv_at hl 9 rfl) ?_
                        refine lv_icmp_ne (tgt := 394) hx hb dL_areBarnsSo_277 (by decide) (fun c_23 => ?_) (fun c_23 => ?_)
                        · refine lv_iconst (v := 0) hx hb dL_areBarnsSo_394 (by decide) ?_
                          refine lv_istore_n (lv' := [(3, .int 0), (2, .int (q9.2.1 + (f_X9_barn v (nI k9) 7))), (1, .int (q9.1 + (f_X9_barn v (nI k9) 8))), (12, .int (f_X9_barn v (nI k9) 6)), (11, .int ((((f_X9_barn v (nI k9) 1) * q36.2.2.1) / q36.1) - (q36.2.2.2 / 10))), (10, .int q130.2), (9, .int q130.1), (8, .int q36.2.2.2), (7, .int q36.2.2.1), (6, .int q36.2.1), (5, .int q36.1), (4, .int (nI k9)), (0, .ref h)]) hx hb dL_areBarnsSo_395 rfl hl (by decide) rfl (fun ls hl => ?_)
                          refine lv_iinc (v := nI (k9 + 1)) (lv' := [(4, .int (nI (k9 + 1))), (3, .int 0), (2, .int (q9.2.1 + (f_X9_barn v (nI k9) 7))), (1, .int (q9.1 + (f_X9_barn v (nI k9) 8))), (12, .int (f_X9_barn v (nI k9) 6)), (11, .int ((((f_X9_barn v (nI k9) 1) * q36.2.2.1) / q36.1) - (q36.2.2.2 / 10))), (10, .int q130.2), (9, .int q130.1), (8, .int q36.2.2.2), (7, .int q36.2.2.1), (6, .int q36.2.1), (5, .int q36.1), (0, .ref h)]) hx hb dL_areBarnsSo_396 hl (k := 11) rfl (nI_add k9 1) (by decide) rfl (fun ls hl => ?_)
                          refine lv_goto (tgt := 9) hx hb dL_areBarnsSo_399 (by decide) ?_
                          exact ih9 (k9 + 1) ((q9.1 + (f_X9_barn v (nI k9) 8)), (q9.2.1 + (f_X9_barn v (nI k9) 7)), 0) (by rw [lp_L_areBarnsSo_9_s, ← hq9]; unfold st_L_areBarnsSo_9; rw [← hq36]; unfold f_L_areBarnsSo_36_x; rw [← hq130]; unfold f_L_areBarnsSo_130_x; rw [if_neg c_21, if_neg c_22, if_neg c_23]; try rfl) (by omega) (by omega) _ _ _ hP hD hS (lv_sub hl [0, 1, 2, 3, 12] rfl)
                        · refine lv_aload_n hx hb dL_areBarnsSo_280 rfl (lv_at hl 12 rfl) ?_
                          refine lv_iload hx hb dL_areBarnsSo_281 (lv_at hl 10 rfl) ?_
                          refine lv_iconst (v := 4) hx hb dL_areBarnsSo_283 (by decide) ?_
                          refine call_W (w1 := fun _ => wX9 z h a b c9 hh hh1 d0 d1 d2 d3 t9 t91 r9 r91 r92 r93 v) len9 (fun _ => len9) (rV (As := [.int (nI k9), .int 4]) (rest := []) ⟨hx, hb, hml, hown, hts⟩ (c_X9_barn l D z tM tS h a b c9 hh hh1 d0 d1 d2 d3 t9 t91 r9 r91 r92 r93 v (nI k9) 4 H.size) (cwV 2 hts gL_areBarnsSo_X9_barn rfl rfl rfl (by decide +kernel) ⟨Nat.le_trans (by decide) hRf, Nat.le_trans (by decide) hRl⟩) (ev_ok tM tS) (e_go (ev_ok tM tS) hE hD hS hA (List.range 128) (gN len9)) hK hP hD (List.range 128) nd128 (gN len9) (va_recv hK hP (ci := 9) (q0 := 0) rfl rfl) rfl hl.1 rfl (Nat.le_of_ble_eq_true rfl) dL_areBarnsSo_284 ⟨Nat.zero_le _, Nat.zero_le _⟩) hK hP hD hS hA (fun zr zu H locs hw hP hD hS => ?_)
                          have hw : zr = (f_X9_barn v (nI k9) 4) := hw
                          subst hw
                          have hP : va_P D vwCl (wX9 z h a b c9 hh hh1 d0 d1 d2 d3 t9 t91 r9 r91 r92 r93 v) H := hP
                          have hD : va_D A (wX9 z h a b c9 hh hh1 d0 d1 d2 d3 t9 t91 r9 r91 r92 r93 v) := hD
                          refine lv_iload hx hb dL_areBarnsSo_287 (lv_at hl 8 rfl) ?_
                          refine lv_icmp_ne (tgt := 394) hx hb dL_areBarnsSo_289 (by decide) (fun c_24 => ?_) (fun c_24 => ?_)
                          · refine lv_iconst (v := 0) hx hb dL_areBarnsSo_394 (by decide) ?_
                            refine lv_istore_n (lv' := [(3, .int 0), (2, .int (q9.2.1 + (f_X9_barn v (nI k9) 7))), (1, .int (q9.1 + (f_X9_barn v (nI k9) 8))), (12, .int (f_X9_barn v (nI k9) 6)), (11, .int ((((f_X9_barn v (nI k9) 1) * q36.2.2.1) / q36.1) - (q36.2.2.2 / 10))), (10, .int q130.2), (9, .int q130.1), (8, .int q36.2.2.2), (7, .int q36.2.2.1), (6, .int q36.2.1), (5, .int q36.1), (4, .int (nI k9)), (0, .ref h)]) hx hb dL_areBarnsSo_395 rfl hl (by decide) rfl (fun ls hl => ?_)
                            refine lv_iinc (v := nI (k9 + 1)) (lv' := [(4, .int (nI (k9 + 1))), (3, .int 0), (2, .int (q9.2.1 + (f_X9_barn v (nI k9) 7))), (1, .int (q9.1 + (f_X9_barn v (nI k9) 8))), (12, .int (f_X9_barn v (nI k9) 6)), (11, .int ((((f_X9_barn v (nI k9) 1) * q36.2.2.1) / q36.1) - (q36.2.2.2 / 10))), (10, .int q130.2), (9, .int q130.1), (8, .int q36.2.2.2), (7, .int q36.2.2.1), (6, .int q36.2.1), (5, .int q36.1), (0, .ref h)]) hx hb dL_areBarnsSo_396 hl (k := 11) rfl (nI_add k9 1) (by decide) rfl (fun ls hl => ?_)
                            refine lv_goto (tgt := 9) hx hb dL_areBarnsSo_399 (by decide) ?_
                            exact ih9 (k9 + 1) ((q9.1 + (f_X9_barn v (nI k9) 8)), (q9.2.1 + (f_X9_barn v (nI k9) 7)), 0) (by rw [lp_L_areBarnsSo_9_s, ← hq9]; unfold st_L_areBarnsSo_9; rw [← hq36]; unfold f_L_areBarnsSo_36_x; rw [← hq130]; unfold f_L_areBarnsSo_130_x; rw [if_neg c_21, if_neg c_22, if_pos c_23, if_neg c_24]; try rfl) (by omega) (by omega) _ _ _ hP hD hS (lv_sub hl [0, 1, 2, 3, 12] rfl)
                          · refine lv_aload_n hx hb dL_areBarnsSo_292 rfl (lv_at hl 12 rfl) ?_
                            refine lv_iload hx hb dL_areBarnsSo_293 (lv_at hl 10 rfl) ?_
                            refine lv_iconst (v := 5) hx hb dL_areBarnsSo_295 (by decide) ?_
                            refine call_W (w1 := fun _ => wX9 z h a b c9 hh hh1 d0 d1 d2 d3 t9 t91 r9 r91 r92 r93 v) len9 (fun _ => len9) (rV (As := [.int (nI k9), .int 5]) (rest := []) ⟨hx, hb, hml, hown, hts⟩ (c_X9_barn l D z tM tS h a b c9 hh hh1 d0 d1 d2 d3 t9 t91 r9 r91 r92 r93 v (nI k9) 5 H.size) (cwV 2 hts gL_areBarnsSo_X9_barn rfl rfl rfl (by decide +kernel) ⟨Nat.le_trans (by decide) hRf, Nat.le_trans (by decide) hRl⟩) (ev_ok tM tS) (e_go (ev_ok tM tS) hE hD hS hA (List.range 128) (gN len9)) hK hP hD (List.range 128) nd128 (gN len9) (va_recv hK hP (ci := 9) (q0 := 0) rfl rfl) rfl hl.1 rfl (Nat.le_of_ble_eq_true rfl) dL_areBarnsSo_296 ⟨Nat.zero_le _, Nat.zero_le _⟩) hK hP hD hS hA (fun zr zu H locs hw hP hD hS => ?_)
                            have hw : zr = (f_X9_barn v (nI k9) 5) := hw
                            subst hw
                            have hP : va_P D vwCl (wX9 z h a b c9 hh hh1 d0 d1 d2 d3 t9 t91 r9 r91 r92 r93 v) H := hP
                            have hD : va_D A (wX9 z h a b c9 hh hh1 d0 d1 d2 d3 t9 t91 r9 r91 r92 r93 v) := hD
                            refine lv_iload hx hb dL_areBarnsSo_299 (lv_at hl 3 rfl) ?_
                            refine lv_if_ge (tgt := 308) hx hb dL_areBarnsSo_301 (by decide) (fun c_25 => ?_) (fun c_25 => ?_)
                            · refine lv_iload hx hb dL_areBarnsSo_308 (lv_at hl 3 rfl) ?_
                              refine lv_icmp_ne (tgt := 394) hx hb dL_areBarnsSo_310 (by decide) (fun c_26 => ?_) (fun c_26 => ?_)
                              · refine lv_iconst (v := 0) hx hb dL_areBarnsSo_394 (by decide) ?_
                                refine lv_istore_n (lv' := [(3, .int 0), (2, .int (q9.2.1 + (f_X9_barn v (nI k9) 7))), (1, .int (q9.1 + (f_X9_barn v (nI k9) 8))), (12, .int (f_X9_barn v (nI k9) 6)), (11, .int ((((f_X9_barn v (nI k9) 1) * q36.2.2.1) / q36.1) - (q36.2.2.2 / 10))), (10, .int q130.2), (9, .int q130.1), (8, .int q36.2.2.2), (7, .int q36.2.2.1), (6, .int q36.2.1), (5, .int q36.1), (4, .int (nI k9)), (0, .ref h)]) hx hb dL_areBarnsSo_395 rfl hl (by decide) rfl (fun ls hl => ?_)
                                refine lv_iinc (v := nI (k9 + 1)) (lv' := [(4, .int (nI (k9 + 1))), (3, .int 0), (2, .int (q9.2.1 + (f_X9_barn v (nI k9) 7))), (1, .int (q9.1 + (f_X9_barn v (nI k9) 8))), (12, .int (f_X9_barn v (nI k9) 6)), (11, .int ((((f_X9_barn v (nI k9) 1) * q36.2.2.1) / q36.1) - (q36.2.2.2 / 10))), (10, .int q130.2), (9, .int q130.1), (8, .int q36.2.2.2), (7, .int q36.2.2.1), (6, .int q36.2.1), (5, .int q36.1), (0, .ref h)]) hx hb dL_areBarnsSo_396 hl (k := 11) rfl (nI_add k9 1) (by decide) rfl (fun ls hl => ?_)
                                refine lv_goto (tgt := 9) hx hb dL_areBarnsSo_399 (by decide) ?_
                                exact ih9 (k9 + 1) ((q9.1 + (f_X9_barn v (nI k9) 8)), (q9.2.1 + (f_X9_barn v (nI k9) 7)), 0) (by rw [lp_L_areBarnsSo_9_s, ← hq9]; unfold st_L_areBarnsSo_9; rw [← hq36]; unfold f_L_areBarnsSo_36_x; rw [← hq130]; unfold f_L_areBarnsSo_130_x; rw [if_neg c_21, if_neg c_22, if_pos c_23, if_pos c_24, if_pos c_25, if_neg c_26]; try rfl) (by omega) (by omega) _ _ _ hP hD hS (lv_sub hl [0, 1, 2, 3, 12] rfl)
                              · refine lv_aload_n hx hb dL_areBarnsSo_313 rfl (lv_at hl 12 rfl) ?_
                                refine lv_iload hx hb dL_areBarnsSo_314 (lv_at hl 10 rfl) ?_
                                refine lv_iconst (v := 5) hx hb dL_areBarnsSo_316 (by decide) ?_
                                refine call_W (w1 := fun _ => wX9 z h a b c9 hh hh1 d0 d1 d2 d3 t9 t91 r9 r91 r92 r93 v) len9 (fun _ => len9) (rV (As := [.int (nI k9), .int 5]) (rest := []) ⟨hx, hb, hml, hown, hts⟩ (c_X9_barn l D z tM tS h a b c9 hh hh1 d0 d1 d2 d3 t9 t91 r9 r91 r92 r93 v (nI k9) 5 H.size) (cwV 2 hts gL_areBarnsSo_X9_barn rfl rfl rfl (by decide +kernel) ⟨Nat.le_trans (by decide) hRf, Nat.le_trans (by decide) hRl⟩) (ev_ok tM tS) (e_go (ev_ok tM tS) hE hD hS hA (List.range 128) (gN len9)) hK hP hD (List.range 128) nd128 (gN len9) (va_recv hK hP (ci := 9) (q0 := 0) rfl rfl) rfl hl.1 rfl (Nat.le_of_ble_eq_true rfl) dL_areBarnsSo_317 ⟨Nat.zero_le _, Nat.zero_le _⟩) hK hP hD hS hA (fun zr zu H locs hw hP hD hS => ?_)
                                have hw : zr = (f_X9_barn v (nI k9) 5) := hw
                                subst hw
                                have hP : va_P D vwCl (wX9 z h a b c9 hh hh1 d0 d1 d2 d3 t9 t91 r9 r91 r92 r93 v) H := hP
                                have hD : va_D A (wX9 z h a b c9 hh hh1 d0 d1 d2 d3 t9 t91 r9 r91 r92 r93 v) := hD
                                refine lv_aload_n hx hb dL_areBarnsSo_320 rfl (lv_at hl 12 rfl) ?_
                                refine lv_iload hx hb dL_areBarnsSo_321 (lv_at hl 10 rfl) ?_
                                refine lv_iconst (v := 1) hx hb dL_areBarnsSo_323 (by decide) ?_
                                refine call_W (w1 := fun _ => wX9 z h a b c9 hh hh1 d0 d1 d2 d3 t9 t91 r9 r91 r92 r93 v) len9 (fun _ => len9) (rV (As := [.int (nI k9), .int 1]) (rest := [.int (f_X9_barn v (nI k9) 5)]) ⟨hx, hb, hml, hown, hts⟩ (c_X9_barn l D z tM tS h a b c9 hh hh1 d0 d1 d2 d3 t9 t91 r9 r91 r92 r93 v (nI k9) 1 H.size) (cwV 2 hts gL_areBarnsSo_X9_barn rfl rfl rfl (by decide +kernel) ⟨Nat.le_trans (by decide) hRf, Nat.le_trans (by decide) hRl⟩) (ev_ok tM tS) (e_go (ev_ok tM tS) hE hD hS hA (List.range 128) (gN len9)) hK hP hD (List.range 128) nd128 (gN len9) (va_recv hK hP (ci := 9) (q0 := 0) rfl rfl) rfl hl.1 rfl (Nat.le_of_ble_eq_true rfl) dL_areBarnsSo_324 ⟨Nat.zero_le _, Nat.zero_le _⟩) hK hP hD hS hA (fun zr zu H locs hw hP hD hS => ?_)
                                have hw : zr = (f_X9_barn v (nI k9) 1) := hw
                                subst hw
                                have hP : va_P D vwCl (wX9 z h a b c9 hh hh1 d0 d1 d2 d3 t9 t91 r9 r91 r92 r93 v) H := hP
                                have hD : va_D A (wX9 z h a b c9 hh hh1 d0 d1 d2 d3 t9 t91 r9 r91 r92 r93 v) := hD
                                refine lv_icmp_gt (tgt := 394) hx hb dL_areBarnsSo_327 (by decide) (fun c_27 => ?_) (fun c_27 => ?_)
                                · refine lv_iconst (v := 0) hx hb dL_areBarnsSo_394 (by decide) ?_
                                  refine lv_istore_n (lv' := [(3, .int 0), (2, .int (q9.2.1 + (f_X9_barn v (nI k9) 7))), (1, .int (q9.1 + (f_X9_barn v (nI k9) 8))), (12, .int (f_X9_barn v (nI k9) 6)), (11, .int ((((f_X9_barn v (nI k9) 1) * q36.2.2.1) / q36.1) - (q36.2.2.2 / 10))), (10, .int q130.2), (9, .int q130.1), (8, .int q36.2.2.2), (7, .int q36.2.2.1), (6, .int q36.2.1), (5, .int q36.1), (4, .int (nI k9)), (0, .ref h)]) hx hb dL_areBarnsSo_395 rfl hl (by decide) rfl (fun ls hl => ?_)
                                  refine lv_iinc (v := nI (k9 + 1)) (lv' := [(4, .int (nI (k9 + 1))), (3, .int 0), (2, .int (q9.2.1 + (f_X9_barn v (nI k9) 7))), (1, .int (q9.1 + (f_X9_barn v (nI k9) 8))), (12, .int (f_X9_barn v (nI k9) 6)), (11, .int ((((f_X9_barn v (nI k9) 1) * q36.2.2.1) / q36.1) - (q36.2.2.2 / 10))), (10, .int q130.2), (9, .int q130.1), (8, .int q36.2.2.2), (7, .int q36.2.2.1), (6, .int q36.2.1), (5, .int q36.1), (0, .ref h)]) hx hb dL_areBarnsSo_396 hl (k := 11) rfl (nI_add k9 1) (by decide) rfl (fun ls hl => ?_)
                                  refine lv_goto (tgt := 9) hx hb dL_areBarnsSo_399 (by decide) ?_
                                  exact ih9 (k9 + 1) ((q9.1 + (f_X9_barn v (nI k9) 8)), (q9.2.1 + (f_X9_barn v (nI k9) 7)), 0) (by rw [lp_L_areBarnsSo_9_s, ← hq9]; unfold st_L_areBarnsSo_9; rw [← hq36]; unfold f_L_areBarnsSo_36_x; rw [← hq130]; unfold f_L_areBarnsSo_130_x; rw [if_neg c_21, if_neg c_22, if_pos c_23, if_pos c_24, if_pos c_25, if_pos c_26, if_pos c_27]; try rfl) (by omega) (by omega) _ _ _ hP hD hS (lv_sub hl [0, 1, 2, 3, 12] rfl)
                                · refine lv_aload_n hx hb dL_areBarnsSo_330 rfl (lv_at hl 12 rfl) ?_
                                  refine lv_iload hx hb dL_areBarnsSo_331 (lv_at hl 10 rfl) ?_
                                  refine lv_bipush (v := 7) hx hb dL_areBarnsSo_333 (by decide) ?_
                                  refine call_W (w1 := fun _ => wX9 z h a b c9 hh hh1 d0 d1 d2 d3 t9 t91 r9 r91 r92 r93 v) len9 (fun _ => len9) (rV (As := [.int (nI k9), .int 7]) (rest := []) ⟨hx, hb, hml, hown, hts⟩ (c_X9_ifPrice l D z tM tS h a b c9 hh hh1 d0 d1 d2 d3 t9 t91 r9 r91 r92 r93 v (nI k9) 7 H.size) (cwV 2 hts gL_areBarnsSo_X9_ifPrice rfl rfl rfl (by decide +kernel) ⟨Nat.le_trans (by decide) hRf, Nat.le_trans (by decide) hRl⟩) (ev_ok tM tS) (e_go (ev_ok tM tS) hE hD hS hA (List.range 128) (gN len9)) hK hP hD (List.range 128) nd128 (gN len9) (va_recv hK hP (ci := 9) (q0 := 0) rfl rfl) rfl hl.1 rfl (Nat.le_of_ble_eq_true rfl) dL_areBarnsSo_335 ⟨Nat.zero_le _, Nat.zero_le _⟩) hK hP hD hS hA (fun zr zu H locs hw hP hD hS => ?_)
                                  have hw : zr = (f_X9_ifPrice v (nI k9) 7) := hw
                                  subst hw
                                  have hP : va_P D vwCl (wX9 z h a b c9 hh hh1 d0 d1 d2 d3 t9 t91 r9 r91 r92 r93 v) H := hP
                                  have hD : va_D A (wX9 z h a b c9 hh hh1 d0 d1 d2 d3 t9 t91 r9 r91 r92 r93 v) := hD
                                  refine lv_bipush (v := 7) hx hb dL_areBarnsSo_338 (by decide) ?_
                                  refine lv_aload_n hx hb dL_areBarnsSo_340 rfl (lv_at hl 12 rfl) ?_
                                  refine lv_iload hx hb dL_areBarnsSo_341 (lv_at hl 10 rfl) ?_
                                  refine lv_iconst (v := 5) hx hb dL_areBarnsSo_343 (by decide) ?_
                                  refine call_W (w1 := fun _ => wX9 z h a b c9 hh hh1 d0 d1 d2 d3 t9 t91 r9 r91 r92 r93 v) len9 (fun _ => len9) (rV (As := [.int (nI k9), .int 5]) (rest := [.int 7, .int (f_X9_ifPrice v (nI k9) 7)]) ⟨hx, hb, hml, hown, hts⟩ (c_X9_barn l D z tM tS h a b c9 hh hh1 d0 d1 d2 d3 t9 t91 r9 r91 r92 r93 v (nI k9) 5 H.size) (cwV 2 hts gL_areBarnsSo_X9_barn rfl rfl rfl (by decide +kernel) ⟨Nat.le_trans (by decide) hRf, Nat.le_trans (by decide) hRl⟩) (ev_ok tM tS) (e_go (ev_ok tM tS) hE hD hS hA (List.range 128) (gN len9)) hK hP hD (List.range 128) nd128 (gN len9) (va_recv hK hP (ci := 9) (q0 := 0) rfl rfl) rfl hl.1 rfl (Nat.le_of_ble_eq_true rfl) dL_areBarnsSo_344 ⟨Nat.zero_le _, Nat.zero_le _⟩) hK hP hD hS hA (fun zr zu H locs hw hP hD hS => ?_)
                                  have hw : zr = (f_X9_barn v (nI k9) 5) := hw
                                  subst hw
                                  have hP : va_P D vwCl (wX9 z h a b c9 hh hh1 d0 d1 d2 d3 t9 t91 r9 r91 r92 r93 v) H := hP
                                  have hD : va_D A (wX9 z h a b c9 hh hh1 d0 d1 d2 d3 t9 t91 r9 r91 r92 r93 v) := hD
                                  refine lv_imul hx hb dL_areBarnsSo_347 ?_
                                  refine lv_icmp_ne (tgt := 394) hx hb dL_areBarnsSo_348 (by decide) (fun c_28 => ?_) (fun c_28 => ?_)
                                  · refine lv_iconst (v := 0) hx hb dL_areBarnsSo_394 (by decide) ?_
                                    refine lv_istore_n (lv' := [(3, .int 0), (2, .int (q9.2.1 + (f_X9_barn v (nI k9) 7))), (1, .int (q9.1 + (f_X9_barn v (nI k9) 8))), (12, .int (f_X9_barn v (nI k9) 6)), (11, .int ((((f_X9_barn v (nI k9) 1) * q36.2.2.1) / q36.1) - (q36.2.2.2 / 10))), (10, .int q130.2), (9, .int q130.1), (8, .int q36.2.2.2), (7, .int q36.2.2.1), (6, .int q36.2.1), (5, .int q36.1), (4, .int (nI k9)), (0, .ref h)]) hx hb dL_areBarnsSo_395 rfl hl (by decide) rfl (fun ls hl => ?_)
                                    refine lv_iinc (v := nI (k9 + 1)) (lv' := [(4, .int (nI (k9 + 1))), (3, .int 0), (2, .int (q9.2.1 + (f_X9_barn v (nI k9) 7))), (1, .int (q9.1 + (f_X9_barn v (nI k9) 8))), (12, .int (f_X9_barn v (nI k9) 6)), (11, .int ((((f_X9_barn v (nI k9) 1) * q36.2.2.1) / q36.1) - (q36.2.2.2 / 10))), (10, .int q130.2), (9, .int q130.1), (8, .int q36.2.2.2), (7, .int q36.2.2.1), (6, .int q36.2.1), (5, .int q36.1), (0, .ref h)]) hx hb dL_areBarnsSo_396 hl (k := 11) rfl (nI_add k9 1) (by decide) rfl (fun ls hl => ?_)
                                    refine lv_goto (tgt := 9) hx hb dL_areBarnsSo_399 (by decide) ?_
                                    exact ih9 (k9 + 1) ((q9.1 + (f_X9_barn v (nI k9) 8)), (q9.2.1 + (f_X9_barn v (nI k9) 7)), 0) (by rw [lp_L_areBarnsSo_9_s, ← hq9]; unfold st_L_areBarnsSo_9; rw [← hq36]; unfold f_L_areBarnsSo_36_x; rw [← hq130]; unfold f_L_areBarnsSo_130_x; rw [if_neg c_21, if_neg c_22, if_pos c_23, if_pos c_24, if_pos c_25, if_pos c_26, if_neg c_27, if_neg c_28]; try rfl) (by omega) (by omega) _ _ _ hP hD hS (lv_sub hl [0, 1, 2, 3, 12] rfl)
                                  · refine lv_iload hx hb dL_areBarnsSo_351 (lv_at hl 2 rfl) ?_
                                    refine lv_iconst (v := 1) hx hb dL_areBarnsSo_353 (by decide) ?_
                                    refine lv_icmp_eq (tgt := 390) hx hb dL_areBarnsSo_354 (by decide) (fun c_29 => ?_) (fun c_29 => ?_)
                                    · refine lv_iconst (v := 1) hx hb dL_areBarnsSo_390 (by decide) ?_
                                      refine lv_goto (tgt := 395) hx hb dL_areBarnsSo_391 (by decide) ?_
                                      refine lv_istore_n (lv' := [(3, .int 1), (2, .int (q9.2.1 + (f_X9_barn v (nI k9) 7))), (1, .int (q9.1 + (f_X9_barn v (nI k9) 8))), (12, .int (f_X9_barn v (nI k9) 6)), (11, .int ((((f_X9_barn v (nI k9) 1) * q36.2.2.1) / q36.1) - (q36.2.2.2 / 10))), (10, .int q130.2), (9, .int q130.1), (8, .int q36.2.2.2), (7, .int q36.2.2.1), (6, .int q36.2.1), (5, .int q36.1), (4, .int (nI k9)), (0, .ref h)]) hx hb dL_areBarnsSo_395 rfl hl (by decide) rfl (fun ls hl => ?_)
                                      refine lv_iinc (v := nI (k9 + 1)) (lv' := [(4, .int (nI (k9 + 1))), (3, .int 1), (2, .int (q9.2.1 + (f_X9_barn v (nI k9) 7))), (1, .int (q9.1 + (f_X9_barn v (nI k9) 8))), (12, .int (f_X9_barn v (nI k9) 6)), (11, .int ((((f_X9_barn v (nI k9) 1) * q36.2.2.1) / q36.1) - (q36.2.2.2 / 10))), (10, .int q130.2), (9, .int q130.1), (8, .int q36.2.2.2), (7, .int q36.2.2.1), (6, .int q36.2.1), (5, .int q36.1), (0, .ref h)]) hx hb dL_areBarnsSo_396 hl (k := 11) rfl (nI_add k9 1) (by decide) rfl (fun ls hl => ?_)
                                      refine lv_goto (tgt := 9) hx hb dL_areBarnsSo_399 (by decide) ?_
                                      exact ih9 (k9 + 1) ((q9.1 + (f_X9_barn v (nI k9) 8)), (q9.2.1 + (f_X9_barn v (nI k9) 7)), 1) (by rw [lp_L_areBarnsSo_9_s, ← hq9]; unfold st_L_areBarnsSo_9; rw [← hq36]; unfold f_L_areBarnsSo_36_x; rw [← hq130]; unfold f_L_areBarnsSo_130_x; rw [if_neg c_21, if_neg c_22, if_pos c_23, if_pos c_24, if_pos c_25, if_pos c_26, if_neg c_27, if_pos c_28, if_pos c_29]; try rfl) (by omega) (by omega) _ _ _ hP hD hS (lv_sub hl [0, 1, 2, 3, 12] rfl)
                                    · refine lv_iload hx hb dL_areBarnsSo_357 (lv_at hl 2 rfl) ?_
                                      refine lv_iload hx hb dL_areBarnsSo_359 (lv_at hl 9 rfl) ?_
                                      refine lv_if_ne (tgt := 368) hx hb dL_areBarnsSo_361 (by decide) (fun c_30 => ?_) (fun c_30 => absurd c_30 c_21)
                                      refine lv_iload hx hb dL_areBarnsSo_368 (lv_at hl 5 rfl) ?_
                                      refine lv_if_ne (tgt := 377) hx hb dL_areBarnsSo_370 (by decide) (fun c_31 => ?_) (fun c_31 => ?_)
                                      · refine lv_iload hx hb dL_areBarnsSo_377 (lv_at hl 4 rfl) ?_
                                        refine lv_if_ne (tgt := 386) hx hb dL_areBarnsSo_379 (by decide) (fun c_32 => ?_) (fun c_32 => ?_)
                                        · refine lv_iconst (v := 0) hx hb dL_areBarnsSo_386 (by decide) ?_
                                          refine lv_icmp_ne (tgt := 394) hx hb dL_areBarnsSo_387 (by decide) (fun c_33 => ?_) (fun c_33 => ?_)
                                          · refine lv_iconst (v := 0) hx hb dL_areBarnsSo_394 (by decide) ?_
                                            refine lv_istore_n (lv' := [(3, .int 0), (2, .int (q9.2.1 + (f_X9_barn v (nI k9) 7))), (1, .int (q9.1 + (f_X9_barn v (nI k9) 8))), (12, .int (f_X9_barn v (nI k9) 6)), (11, .int ((((f_X9_barn v (nI k9) 1) * q36.2.2.1) / q36.1) - (q36.2.2.2 / 10))), (10, .int q130.2), (9, .int q130.1), (8, .int q36.2.2.2), (7, .int q36.2.2.1), (6, .int q36.2.1), (5, .int q36.1), (4, .int (nI k9)), (0, .ref h)]) hx hb dL_areBarnsSo_395 rfl hl (by decide) rfl (fun ls hl => ?_)
                                            refine lv_iinc (v := nI (k9 + 1)) (lv' := [(4, .int (nI (k9 + 1))), (3, .int 0), (2, .int (q9.2.1 + (f_X9_barn v (nI k9) 7))), (1, .int (q9.1 + (f_X9_barn v (nI k9) 8))), (12, .int (f_X9_barn v (nI k9) 6)), (11, .int ((((f_X9_barn v (nI k9) 1) * q36.2.2.1) / q36.1) - (q36.2.2.2 / 10))), (10, .int q130.2), (9, .int q130.1), (8, .int q36.2.2.2), (7, .int q36.2.2.1), (6, .int q36.2.1), (5, .int q36.1), (0, .ref h)]) hx hb dL_areBarnsSo_396 hl (k := 11) rfl (nI_add k9 1) (by decide) rfl (fun ls hl => ?_)
                                            refine lv_goto (tgt := 9) hx hb dL_areBarnsSo_399 (by decide) ?_
                                            exact ih9 (k9 + 1) ((q9.1 + (f_X9_barn v (nI k9) 8)), (q9.2.1 + (f_X9_barn v (nI k9) 7)), 0) (by rw [lp_L_areBarnsSo_9_s, ← hq9]; unfold st_L_areBarnsSo_9; rw [← hq36]; unfold f_L_areBarnsSo_36_x; rw [← hq130]; unfold f_L_areBarnsSo_130_x; rw [if_neg c_21, if_neg c_22, if_pos c_23, if_pos c_24, if_pos c_25, if_pos c_26, if_neg c_27, if_pos c_28, if_neg c_29, if_neg c_31, if_neg c_32, if_neg c_33]; try rfl) (by omega) (by omega) _ _ _ hP hD hS (lv_sub hl [0, 1, 2, 3, 12] rfl)
                                          · refine lv_iconst (v := 1) hx hb dL_areBarnsSo_390 (by decide) ?_
                                            refine lv_goto (tgt := 395) hx hb dL_areBarnsSo_391 (by decide) ?_
                                            refine lv_istore_n (lv' := [(3, .int 1), (2, .int (q9.2.1 + (f_X9_barn v (nI k9) 7))), (1, .int (q9.1 + (f_X9_barn v (nI k9) 8))), (12, .int (f_X9_barn v (nI k9) 6)), (11, .int ((((f_X9_barn v (nI k9) 1) * q36.2.2.1) / q36.1) - (q36.2.2.2 / 10))), (10, .int q130.2), (9, .int q130.1), (8, .int q36.2.2.2), (7, .int q36.2.2.1), (6, .int q36.2.1), (5, .int q36.1), (4, .int (nI k9)), (0, .ref h)]) hx hb dL_areBarnsSo_395 rfl hl (by decide) rfl (fun ls hl => ?_)
                                            refine lv_iinc (v := nI (k9 + 1)) (lv' := [(4, .int (nI (k9 + 1))), (3, .int 1), (2, .int (q9.2.1 + (f_X9_barn v (nI k9) 7))), (1, .int (q9.1 + (f_X9_barn v (nI k9) 8))), (12, .int (f_X9_barn v (nI k9) 6)), (11, .int ((((f_X9_barn v (nI k9) 1) * q36.2.2.1) / q36.1) - (q36.2.2.2 / 10))), (10, .int q130.2), (9, .int q130.1), (8, .int q36.2.2.2), (7, .int q36.2.2.1), (6, .int q36.2.1), (5, .int q36.1), (0, .ref h)]) hx hb dL_areBarnsSo_396 hl (k := 11) rfl (nI_add k9 1) (by decide) rfl (fun ls hl => ?_)
                                            refine lv_goto (tgt := 9) hx hb dL_areBarnsSo_399 (by decide) ?_
                                            exact ih9 (k9 + 1) ((q9.1 + (f_X9_barn v (nI k9) 8)), (q9.2.1 + (f_X9_barn v (nI k9) 7)), 1) (by rw [lp_L_areBarnsSo_9_s, ← hq9]; unfold st_L_areBarnsSo_9; rw [← hq36]; unfold f_L_areBarnsSo_36_x; rw [← hq130]; unfold f_L_areBarnsSo_130_x; rw [if_neg c_21, if_neg c_22, if_pos c_23, if_pos c_24, if_pos c_25, if_pos c_26, if_neg c_27, if_pos c_28, if_neg c_29, if_neg c_31, if_neg c_32, if_pos c_33]; try rfl) (by omega) (by omega) _ _ _ hP hD hS (lv_sub hl [0, 1, 2, 3, 12] rfl)
                                        · refine lv_iconst (v := 4) hx hb dL_areBarnsSo_382 (by decide) ?_
                                          refine lv_goto (tgt := 387) hx hb dL_areBarnsSo_383 (by decide) ?_
                                          refine lv_icmp_ne (tgt := 394) hx hb dL_areBarnsSo_387 (by decide) (fun c_34 => ?_) (fun c_34 => ?_)
                                          · refine lv_iconst (v := 0) hx hb dL_areBarnsSo_394 (by decide) ?_
                                            refine lv_istore_n (lv' := [(3, .int 0), (2, .int (q9.2.1 + (f_X9_barn v (nI k9) 7))), (1, .int (q9.1 + (f_X9_barn v (nI k9) 8))), (12, .int (f_X9_barn v (nI k9) 6)), (11, .int ((((f_X9_barn v (nI k9) 1) * q36.2.2.1) / q36.1) - (q36.2.2.2 / 10))), (10, .int q130.2), (9, .int q130.1), (8, .int q36.2.2.2), (7, .int q36.2.2.1), (6, .int q36.2.1), (5, .int q36.1), (4, .int (nI k9)), (0, .ref h)]) hx hb dL_areBarnsSo_395 rfl hl (by decide) rfl (fun ls hl => ?_)
                                            refine lv_iinc (v := nI (k9 + 1)) (lv' := [(4, .int (nI (k9 + 1))), (3, .int 0), (2, .int (q9.2.1 + (f_X9_barn v (nI k9) 7))), (1, .int (q9.1 + (f_X9_barn v (nI k9) 8))), (12, .int (f_X9_barn v (nI k9) 6)), (11, .int ((((f_X9_barn v (nI k9) 1) * q36.2.2.1) / q36.1) - (q36.2.2.2 / 10))), (10, .int q130.2), (9, .int q130.1), (8, .int q36.2.2.2), (7, .int q36.2.2.1), (6, .int q36.2.1), (5, .int q36.1), (0, .ref h)]) hx hb dL_areBarnsSo_396 hl (k := 11) rfl (nI_add k9 1) (by decide) rfl (fun ls hl => ?_)
                                            refine lv_goto (tgt := 9) hx hb dL_areBarnsSo_399 (by decide) ?_
                                            exact ih9 (k9 + 1) ((q9.1 + (f_X9_barn v (nI k9) 8)), (q9.2.1 + (f_X9_barn v (nI k9) 7)), 0) (by rw [lp_L_areBarnsSo_9_s, ← hq9]; unfold st_L_areBarnsSo_9; rw [← hq36]; unfold f_L_areBarnsSo_36_x; rw [← hq130]; unfold f_L_areBarnsSo_130_x; rw [if_neg c_21, if_neg c_22, if_pos c_23, if_pos c_24, if_pos c_25, if_pos c_26, if_neg c_27, if_pos c_28, if_neg c_29, if_neg c_31, if_pos c_32, if_neg c_34]; try rfl) (by omega) (by omega) _ _ _ hP hD hS (lv_sub hl [0, 1, 2, 3, 12] rfl)
                                          · refine lv_iconst (v := 1) hx hb dL_areBarnsSo_390 (by decide) ?_
                                            refine lv_goto (tgt := 395) hx hb dL_areBarnsSo_391 (by decide) ?_
                                            refine lv_istore_n (lv' := [(3, .int 1), (2, .int (q9.2.1 + (f_X9_barn v (nI k9) 7))), (1, .int (q9.1 + (f_X9_barn v (nI k9) 8))), (12, .int (f_X9_barn v (nI k9) 6)), (11, .int ((((f_X9_barn v (nI k9) 1) * q36.2.2.1) / q36.1) - (q36.2.2.2 / 10))), (10, .int q130.2), (9, .int q130.1), (8, .int q36.2.2.2), (7, .int q36.2.2.1), (6, .int q36.2.1), (5, .int q36.1), (4, .int (nI k9)), (0, .ref h)]) hx hb dL_areBarnsSo_395 rfl hl (by decide) rfl (fun ls hl => ?_)
                                            refine lv_iinc (v := nI (k9 + 1)) (lv' := [(4, .int (nI (k9 + 1))), (3, .int 1), (2, .int (q9.2.1 + (f_X9_barn v (nI k9) 7))), (1, .int (q9.1 + (f_X9_barn v (nI k9) 8))), (12, .int (f_X9_barn v (nI k9) 6)), (11, .int ((((f_X9_barn v (nI k9) 1) * q36.2.2.1) / q36.1) - (q36.2.2.2 / 10))), (10, .int q130.2), (9, .int q130.1), (8, .int q36.2.2.2), (7, .int q36.2.2.1), (6, .int q36.2.1), (5, .int q36.1), (0, .ref h)]) hx hb dL_areBarnsSo_396 hl (k := 11) rfl (nI_add k9 1) (by decide) rfl (fun ls hl => ?_)
                                            refine lv_goto (tgt := 9) hx hb dL_areBarnsSo_399 (by decide) ?_
                                            exact ih9 (k9 + 1) ((q9.1 + (f_X9_barn v (nI k9) 8)), (q9.2.1 + (f_X9_barn v (nI k9) 7)), 1) (by rw [lp_L_areBarnsSo_9_s, ← hq9]; unfold st_L_areBarnsSo_9; rw [← hq36]; unfold f_L_areBarnsSo_36_x; rw [← hq130]; unfold f_L_areBarnsSo_130_x; rw [if_neg c_21, if_neg c_22, if_pos c_23, if_pos c_24, if_pos c_25, if_pos c_26, if_neg c_27, if_pos c_28, if_neg c_29, if_neg c_31, if_pos c_32, if_pos c_34]; try rfl) (by omega) (by omega) _ _ _ hP hD hS (lv_sub hl [0, 1, 2, 3, 12] rfl)
                                      · refine lv_iconst (v := 3) hx hb dL_areBarnsSo_373 (by decide) ?_
                                        refine lv_goto (tgt := 387) hx hb dL_areBarnsSo_374 (by decide) ?_
                                        refine lv_icmp_ne (tgt := 394) hx hb dL_areBarnsSo_387 (by decide) (fun c_35 => ?_) (fun c_35 => ?_)
                                        · refine lv_iconst (v := 0) hx hb dL_areBarnsSo_394 (by decide) ?_
                                          refine lv_istore_n (lv' := [(3, .int 0), (2, .int (q9.2.1 + (f_X9_barn v (nI k9) 7))), (1, .int (q9.1 + (f_X9_barn v (nI k9) 8))), (12, .int (f_X9_barn v (nI k9) 6)), (11, .int ((((f_X9_barn v (nI k9) 1) * q36.2.2.1) / q36.1) - (q36.2.2.2 / 10))), (10, .int q130.2), (9, .int q130.1), (8, .int q36.2.2.2), (7, .int q36.2.2.1), (6, .int q36.2.1), (5, .int q36.1), (4, .int (nI k9)), (0, .ref h)]) hx hb dL_areBarnsSo_395 rfl hl (by decide) rfl (fun ls hl => ?_)
                                          refine lv_iinc (v := nI (k9 + 1)) (lv' := [(4, .int (nI (k9 + 1))), (3, .int 0), (2, .int (q9.2.1 + (f_X9_barn v (nI k9) 7))), (1, .int (q9.1 + (f_X9_barn v (nI k9) 8))), (12, .int (f_X9_barn v (nI k9) 6)), (11, .int ((((f_X9_barn v (nI k9) 1) * q36.2.2.1) / q36.1) - (q36.2.2.2 / 10))), (10, .int q130.2), (9, .int q130.1), (8, .int q36.2.2.2), (7, .int q36.2.2.1), (6, .int q36.2.1), (5, .int q36.1), (0, .ref h)]) hx hb dL_areBarnsSo_396 hl (k := 11) rfl (nI_add k9 1) (by decide) rfl (fun ls hl => ?_)
                                          refine lv_goto (tgt := 9) hx hb dL_areBarnsSo_399 (by decide) ?_
                                          exact ih9 (k9 + 1) ((q9.1 + (f_X9_barn v (nI k9) 8)), (q9.2.1 + (f_X9_barn v (nI k9) 7)), 0) (by rw [lp_L_areBarnsSo_9_s, ← hq9]; unfold st_L_areBarnsSo_9; rw [← hq36]; unfold f_L_areBarnsSo_36_x; rw [← hq130]; unfold f_L_areBarnsSo_130_x; rw [if_neg c_21, if_neg c_22, if_pos c_23, if_pos c_24, if_pos c_25, if_pos c_26, if_neg c_27, if_pos c_28, if_neg c_29, if_pos c_31, if_neg c_35]; try rfl) (by omega) (by omega) _ _ _ hP hD hS (lv_sub hl [0, 1, 2, 3, 12] rfl)
                                        · refine lv_iconst (v := 1) hx hb dL_areBarnsSo_390 (by decide) ?_
                                          refine lv_goto (tgt := 395) hx hb dL_areBarnsSo_391 (by decide) ?_
                                          refine lv_istore_n (lv' := [(3, .int 1), (2, .int (q9.2.1 + (f_X9_barn v (nI k9) 7))), (1, .int (q9.1 + (f_X9_barn v (nI k9) 8))), (12, .int (f_X9_barn v (nI k9) 6)), (11, .int ((((f_X9_barn v (nI k9) 1) * q36.2.2.1) / q36.1) - (q36.2.2.2 / 10))), (10, .int q130.2), (9, .int q130.1), (8, .int q36.2.2.2), (7, .int q36.2.2.1), (6, .int q36.2.1), (5, .int q36.1), (4, .int (nI k9)), (0, .ref h)]) hx hb dL_areBarnsSo_395 rfl hl (by decide) rfl (fun ls hl => ?_)
                                          refine lv_iinc (v := nI (k9 + 1)) (lv' := [(4, .int (nI (k9 + 1))), (3, .int 1), (2, .int (q9.2.1 + (f_X9_barn v (nI k9) 7))), (1, .int (q9.1 + (f_X9_barn v (nI k9) 8))), (12, .int (f_X9_barn v (nI k9) 6)), (11, .int ((((f_X9_barn v (nI k9) 1) * q36.2.2.1) / q36.1) - (q36.2.2.2 / 10))), (10, .int q130.2), (9, .int q130.1), (8, .int q36.2.2.2), (7, .int q36.2.2.1), (6, .int q36.2.1), (5, .int q36.1), (0, .ref h)]) hx hb dL_areBarnsSo_396 hl (k := 11) rfl (nI_add k9 1) (by decide) rfl (fun ls hl => ?_)
                                          refine lv_goto (tgt := 9) hx hb dL_areBarnsSo_399 (by decide) ?_
                                          exact ih9 (k9 + 1) ((q9.1 + (f_X9_barn v (nI k9) 8)), (q9.2.1 + (f_X9_barn v (nI k9) 7)), 1) (by rw [lp_L_areBarnsSo_9_s, ← hq9]; unfold st_L_areBarnsSo_9; rw [← hq36]; unfold f_L_areBarnsSo_36_x; rw [← hq130]; unfold f_L_areBarnsSo_130_x; rw [if_neg c_21, if_neg c_22, if_pos c_23, if_pos c_24, if_pos c_25, if_pos c_26, if_neg c_27, if_pos c_28, if_neg c_29, if_pos c_31, if_pos c_35]; try rfl) (by omega) (by omega) _ _ _ hP hD hS (lv_sub hl [0, 1, 2, 3, 12] rfl)
                            · refine lv_iconst (v := 0) hx hb dL_areBarnsSo_304 (by decide) ?_
                              refine lv_goto (tgt := 310) hx hb dL_areBarnsSo_305 (by decide) ?_
                              refine lv_icmp_ne (tgt := 394) hx hb dL_areBarnsSo_310 (by decide) (fun c_36 => ?_) (fun c_36 => ?_)
                              · refine lv_iconst (v := 0) hx hb dL_areBarnsSo_394 (by decide) ?_
                                refine lv_istore_n (lv' := [(3, .int 0), (2, .int (q9.2.1 + (f_X9_barn v (nI k9) 7))), (1, .int (q9.1 + (f_X9_barn v (nI k9) 8))), (12, .int (f_X9_barn v (nI k9) 6)), (11, .int ((((f_X9_barn v (nI k9) 1) * q36.2.2.1) / q36.1) - (q36.2.2.2 / 10))), (10, .int q130.2), (9, .int q130.1), (8, .int q36.2.2.2), (7, .int q36.2.2.1), (6, .int q36.2.1), (5, .int q36.1), (4, .int (nI k9)), (0, .ref h)]) hx hb dL_areBarnsSo_395 rfl hl (by decide) rfl (fun ls hl => ?_)
                                refine lv_iinc (v := nI (k9 + 1)) (lv' := [(4, .int (nI (k9 + 1))), (3, .int 0), (2, .int (q9.2.1 + (f_X9_barn v (nI k9) 7))), (1, .int (q9.1 + (f_X9_barn v (nI k9) 8))), (12, .int (f_X9_barn v (nI k9) 6)), (11, .int ((((f_X9_barn v (nI k9) 1) * q36.2.2.1) / q36.1) - (q36.2.2.2 / 10))), (10, .int q130.2), (9, .int q130.1), (8, .int q36.2.2.2), (7, .int q36.2.2.1), (6, .int q36.2.1), (5, .int q36.1), (0, .ref h)]) hx hb dL_areBarnsSo_396 hl (k := 11) rfl (nI_add k9 1) (by decide) rfl (fun ls hl => ?_)
                                refine lv_goto (tgt := 9) hx hb dL_areBarnsSo_399 (by decide) ?_
                                exact ih9 (k9 + 1) ((q9.1 + (f_X9_barn v (nI k9) 8)), (q9.2.1 + (f_X9_barn v (nI k9) 7)), 0) (by rw [lp_L_areBarnsSo_9_s, ← hq9]; unfold st_L_areBarnsSo_9; rw [← hq36]; unfold f_L_areBarnsSo_36_x; rw [← hq130]; unfold f_L_areBarnsSo_130_x; rw [if_neg c_21, if_neg c_22, if_pos c_23, if_pos c_24, if_neg c_25, if_neg c_36]; try rfl) (by omega) (by omega) _ _ _ hP hD hS (lv_sub hl [0, 1, 2, 3, 12] rfl)
                              · refine lv_aload_n hx hb dL_areBarnsSo_313 rfl (lv_at hl 12 rfl) ?_
                                refine lv_iload hx hb dL_areBarnsSo_314 (lv_at hl 10 rfl) ?_
                                refine lv_iconst (v := 5) hx hb dL_areBarnsSo_316 (by decide) ?_
                                refine call_W (w1 := fun _ => wX9 z h a b c9 hh hh1 d0 d1 d2 d3 t9 t91 r9 r91 r92 r93 v) len9 (fun _ => len9) (rV (As := [.int (nI k9), .int 5]) (rest := []) ⟨hx, hb, hml, hown, hts⟩ (c_X9_barn l D z tM tS h a b c9 hh hh1 d0 d1 d2 d3 t9 t91 r9 r91 r92 r93 v (nI k9) 5 H.size) (cwV 2 hts gL_areBarnsSo_X9_barn rfl rfl rfl (by decide +kernel) ⟨Nat.le_trans (by decide) hRf, Nat.le_trans (by decide) hRl⟩) (ev_ok tM tS) (e_go (ev_ok tM tS) hE hD hS hA (List.range 128) (gN len9)) hK hP hD (List.range 128) nd128 (gN len9) (va_recv hK hP (ci := 9) (q0 := 0) rfl rfl) rfl hl.1 rfl (Nat.le_of_ble_eq_true rfl) dL_areBarnsSo_317 ⟨Nat.zero_le _, Nat.zero_le _⟩) hK hP hD hS hA (fun zr zu H locs hw hP hD hS => ?_)
                                have hw : zr = (f_X9_barn v (nI k9) 5) := hw
                                subst hw
                                have hP : va_P D vwCl (wX9 z h a b c9 hh hh1 d0 d1 d2 d3 t9 t91 r9 r91 r92 r93 v) H := hP
                                have hD : va_D A (wX9 z h a b c9 hh hh1 d0 d1 d2 d3 t9 t91 r9 r91 r92 r93 v) := hD
                                refine lv_aload_n hx hb dL_areBarnsSo_320 rfl (lv_at hl 12 rfl) ?_
                                refine lv_iload hx hb dL_areBarnsSo_321 (lv_at hl 10 rfl) ?_
                                refine lv_iconst (v := 1) hx hb dL_areBarnsSo_323 (by decide) ?_
                                refine call_W (w1 := fun _ => wX9 z h a b c9 hh hh1 d0 d1 d2 d3 t9 t91 r9 r91 r92 r93 v) len9 (fun _ => len9) (rV (As := [.int (nI k9), .int 1]) (rest := [.int (f_X9_barn v (nI k9) 5)]) ⟨hx, hb, hml, hown, hts⟩ (c_X9_barn l D z tM tS h a b c9 hh hh1 d0 d1 d2 d3 t9 t91 r9 r91 r92 r93 v (nI k9) 1 H.size) (cwV 2 hts gL_areBarnsSo_X9_barn rfl rfl rfl (by decide +kernel) ⟨Nat.le_trans (by decide) hRf, Nat.le_trans (by decide) hRl⟩) (ev_ok tM tS) (e_go (ev_ok tM tS) hE hD hS hA (List.range 128) (gN len9)) hK hP hD (List.range 128) nd128 (gN len9) (va_recv hK hP (ci := 9) (q0 := 0) rfl rfl) rfl hl.1 rfl (Nat.le_of_ble_eq_true rfl) dL_areBarnsSo_324 ⟨Nat.zero_le _, Nat.zero_le _⟩) hK hP hD hS hA (fun zr zu H locs hw hP hD hS => ?_)
                                have hw : zr = (f_X9_barn v (nI k9) 1) := hw
                                subst hw
                                have hP : va_P D vwCl (wX9 z h a b c9 hh hh1 d0 d1 d2 d3 t9 t91 r9 r91 r92 r93 v) H := hP
                                have hD : va_D A (wX9 z h a b c9 hh hh1 d0 d1 d2 d3 t9 t91 r9 r91 r92 r93 v) := hD
                                refine lv_icmp_gt (tgt := 394) hx hb dL_areBarnsSo_327 (by decide) (fun c_37 => ?_) (fun c_37 => ?_)
                                · refine lv_iconst (v := 0) hx hb dL_areBarnsSo_394 (by decide) ?_
                                  refine lv_istore_n (lv' := [(3, .int 0), (2, .int (q9.2.1 + (f_X9_barn v (nI k9) 7))), (1, .int (q9.1 + (f_X9_barn v (nI k9) 8))), (12, .int (f_X9_barn v (nI k9) 6)), (11, .int ((((f_X9_barn v (nI k9) 1) * q36.2.2.1) / q36.1) - (q36.2.2.2 / 10))), (10, .int q130.2), (9, .int q130.1), (8, .int q36.2.2.2), (7, .int q36.2.2.1), (6, .int q36.2.1), (5, .int q36.1), (4, .int (nI k9)), (0, .ref h)]) hx hb dL_areBarnsSo_395 rfl hl (by decide) rfl (fun ls hl => ?_)
                                  refine lv_iinc (v := nI (k9 + 1)) (lv' := [(4, .int (nI (k9 + 1))), (3, .int 0), (2, .int (q9.2.1 + (f_X9_barn v (nI k9) 7))), (1, .int (q9.1 + (f_X9_barn v (nI k9) 8))), (12, .int (f_X9_barn v (nI k9) 6)), (11, .int ((((f_X9_barn v (nI k9) 1) * q36.2.2.1) / q36.1) - (q36.2.2.2 / 10))), (10, .int q130.2), (9, .int q130.1), (8, .int q36.2.2.2), (7, .int q36.2.2.1), (6, .int q36.2.1), (5, .int q36.1), (0, .ref h)]) hx hb dL_areBarnsSo_396 hl (k := 11) rfl (nI_add k9 1) (by decide) rfl (fun ls hl => ?_)
                                  refine lv_goto (tgt := 9) hx hb dL_areBarnsSo_399 (by decide) ?_
                                  exact ih9 (k9 + 1) ((q9.1 + (f_X9_barn v (nI k9) 8)), (q9.2.1 + (f_X9_barn v (nI k9) 7)), 0) (by rw [lp_L_areBarnsSo_9_s, ← hq9]; unfold st_L_areBarnsSo_9; rw [← hq36]; unfold f_L_areBarnsSo_36_x; rw [← hq130]; unfold f_L_areBarnsSo_130_x; rw [if_neg c_21, if_neg c_22, if_pos c_23, if_pos c_24, if_neg c_25, if_pos c_36, if_pos c_37]; try rfl) (by omega) (by omega) _ _ _ hP hD hS (lv_sub hl [0, 1, 2, 3, 12] rfl)
                                · refine lv_aload_n hx hb dL_areBarnsSo_330 rfl (lv_at hl 12 rfl) ?_
                                  refine lv_iload hx hb dL_areBarnsSo_331 (lv_at hl 10 rfl) ?_
                                  refine lv_bipush (v := 7) hx hb dL_areBarnsSo_333 (by decide) ?_
                                  refine call_W (w1 := fun _ => wX9 z h a b c9 hh hh1 d0 d1 d2 d3 t9 t91 r9 r91 r92 r93 v) len9 (fun _ => len9) (rV (As := [.int (nI k9), .int 7]) (rest := []) ⟨hx, hb, hml, hown, hts⟩ (c_X9_ifPrice l D z tM tS h a b c9 hh hh1 d0 d1 d2 d3 t9 t91 r9 r91 r92 r93 v (nI k9) 7 H.size) (cwV 2 hts gL_areBarnsSo_X9_ifPrice rfl rfl rfl (by decide +kernel) ⟨Nat.le_trans (by decide) hRf, Nat.le_trans (by decide) hRl⟩) (ev_ok tM tS) (e_go (ev_ok tM tS) hE hD hS hA (List.range 128) (gN len9)) hK hP hD (List.range 128) nd128 (gN len9) (va_recv hK hP (ci := 9) (q0 := 0) rfl rfl) rfl hl.1 rfl (Nat.le_of_ble_eq_true rfl) dL_areBarnsSo_335 ⟨Nat.zero_le _, Nat.zero_le _⟩) hK hP hD hS hA (fun zr zu H locs hw hP hD hS => ?_)
                                  have hw : zr = (f_X9_ifPrice v (nI k9) 7) := hw
                                  subst hw
                                  have hP : va_P D vwCl (wX9 z h a b c9 hh hh1 d0 d1 d2 d3 t9 t91 r9 r91 r92 r93 v) H := hP
                                  have hD : va_D A (wX9 z h a b c9 hh hh1 d0 d1 d2 d3 t9 t91 r9 r91 r92 r93 v) := hD
                                  refine lv_bipush (v := 7) hx hb dL_areBarnsSo_338 (by decide) ?_
                                  refine lv_aload_n hx hb dL_areBarnsSo_340 rfl (lv_at hl 12 rfl) ?_
                                  refine lv_iload hx hb dL_areBarnsSo_341 (lv_at hl 10 rfl) ?_
                                  refine lv_iconst (v := 5) hx hb dL_areBarnsSo_343 (by decide) ?_
                                  refine call_W (w1 := fun _ => wX9 z h a b c9 hh hh1 d0 d1 d2 d3 t9 t91 r9 r91 r92 r93 v) len9 (fun _ => len9) (rV (As := [.int (nI k9), .int 5]) (rest := [.int 7, .int (f_X9_ifPrice v (nI k9) 7)]) ⟨hx, hb, hml, hown, hts⟩ (c_X9_barn l D z tM tS h a b c9 hh hh1 d0 d1 d2 d3 t9 t91 r9 r91 r92 r93 v (nI k9) 5 H.size) (cwV 2 hts gL_areBarnsSo_X9_barn rfl rfl rfl (by decide +kernel) ⟨Nat.le_trans (by decide) hRf, Nat.le_trans (by decide) hRl⟩) (ev_ok tM tS) (e_go (ev_ok tM tS) hE hD hS hA (List.range 128) (gN len9)) hK hP hD (List.range 128) nd128 (gN len9) (va_recv hK hP (ci := 9) (q0 := 0) rfl rfl) rfl hl.1 rfl (Nat.le_of_ble_eq_true rfl) dL_areBarnsSo_344 ⟨Nat.zero_le _, Nat.zero_le _⟩) hK hP hD hS hA (fun zr zu H locs hw hP hD hS => ?_)
                                  have hw : zr = (f_X9_barn v (nI k9) 5) := hw
                                  subst hw
                                  have hP : va_P D vwCl (wX9 z h a b c9 hh hh1 d0 d1 d2 d3 t9 t91 r9 r91 r92 r93 v) H := hP
                                  have hD : va_D A (wX9 z h a b c9 hh hh1 d0 d1 d2 d3 t9 t91 r9 r91 r92 r93 v) := hD
                                  refine lv_imul hx hb dL_areBarnsSo_347 ?_
                                  refine lv_icmp_ne (tgt := 394) hx hb dL_areBarnsSo_348 (by decide) (fun c_38 => ?_) (fun c_38 => ?_)
                                  · refine lv_iconst (v := 0) hx hb dL_areBarnsSo_394 (by decide) ?_
                                    refine lv_istore_n (lv' := [(3, .int 0), (2, .int (q9.2.1 + (f_X9_barn v (nI k9) 7))), (1, .int (q9.1 + (f_X9_barn v (nI k9) 8))), (12, .int (f_X9_barn v (nI k9) 6)), (11, .int ((((f_X9_barn v (nI k9) 1) * q36.2.2.1) / q36.1) - (q36.2.2.2 / 10))), (10, .int q130.2), (9, .int q130.1), (8, .int q36.2.2.2), (7, .int q36.2.2.1), (6, .int q36.2.1), (5, .int q36.1), (4, .int (nI k9)), (0, .ref h)]) hx hb dL_areBarnsSo_395 rfl hl (by decide) rfl (fun ls hl => ?_)
                                    refine lv_iinc (v := nI (k9 + 1)) (lv' := [(4, .int (nI (k9 + 1))), (3, .int 0), (2, .int (q9.2.1 + (f_X9_barn v (nI k9) 7))), (1, .int (q9.1 + (f_X9_barn v (nI k9) 8))), (12, .int (f_X9_barn v (nI k9) 6)), (11, .int ((((f_X9_barn v (nI k9) 1) * q36.2.2.1) / q36.1) - (q36.2.2.2 / 10))), (10, .int q130.2), (9, .int q130.1), (8, .int q36.2.2.2), (7, .int q36.2.2.1), (6, .int q36.2.1), (5, .int q36.1), (0, .ref h)]) hx hb dL_areBarnsSo_396 hl (k := 11) rfl (nI_add k9 1) (by decide) rfl (fun ls hl => ?_)
                                    refine lv_goto (tgt := 9) hx hb dL_areBarnsSo_399 (by decide) ?_
                                    exact ih9 (k9 + 1) ((q9.1 + (f_X9_barn v (nI k9) 8)), (q9.2.1 + (f_X9_barn v (nI k9) 7)), 0) (by rw [lp_L_areBarnsSo_9_s, ← hq9]; unfold st_L_areBarnsSo_9; rw [← hq36]; unfold f_L_areBarnsSo_36_x; rw [← hq130]; unfold f_L_areBarnsSo_130_x; rw [if_neg c_21, if_neg c_22, if_pos c_23, if_pos c_24, if_neg c_25, if_pos c_36, if_neg c_37, if_neg c_38]; try rfl) (by omega) (by omega) _ _ _ hP hD hS (lv_sub hl [0, 1, 2, 3, 12] rfl)
                                  · refine lv_iload hx hb dL_areBarnsSo_351 (lv_at hl 2 rfl) ?_
                                    refine lv_iconst (v := 1) hx hb dL_areBarnsSo_353 (by decide) ?_
                                    refine lv_icmp_eq (tgt := 390) hx hb dL_areBarnsSo_354 (by decide) (fun c_39 => ?_) (fun c_39 => ?_)
                                    · refine lv_iconst (v := 1) hx hb dL_areBarnsSo_390 (by decide) ?_
                                      refine lv_goto (tgt := 395) hx hb dL_areBarnsSo_391 (by decide) ?_
                                      refine lv_istore_n (lv' := [(3, .int 1), (2, .int (q9.2.1 + (f_X9_barn v (nI k9) 7))), (1, .int (q9.1 + (f_X9_barn v (nI k9) 8))), (12, .int (f_X9_barn v (nI k9) 6)), (11, .int ((((f_X9_barn v (nI k9) 1) * q36.2.2.1) / q36.1) - (q36.2.2.2 / 10))), (10, .int q130.2), (9, .int q130.1), (8, .int q36.2.2.2), (7, .int q36.2.2.1), (6, .int q36.2.1), (5, .int q36.1), (4, .int (nI k9)), (0, .ref h)]) hx hb dL_areBarnsSo_395 rfl hl (by decide) rfl (fun ls hl => ?_)
                                      refine lv_iinc (v := nI (k9 + 1)) (lv' := [(4, .int (nI (k9 + 1))), (3, .int 1), (2, .int (q9.2.1 + (f_X9_barn v (nI k9) 7))), (1, .int (q9.1 + (f_X9_barn v (nI k9) 8))), (12, .int (f_X9_barn v (nI k9) 6)), (11, .int ((((f_X9_barn v (nI k9) 1) * q36.2.2.1) / q36.1) - (q36.2.2.2 / 10))), (10, .int q130.2), (9, .int q130.1), (8, .int q36.2.2.2), (7, .int q36.2.2.1), (6, .int q36.2.1), (5, .int q36.1), (0, .ref h)]) hx hb dL_areBarnsSo_396 hl (k := 11) rfl (nI_add k9 1) (by decide) rfl (fun ls hl => ?_)
                                      refine lv_goto (tgt := 9) hx hb dL_areBarnsSo_399 (by decide) ?_
                                      exact ih9 (k9 + 1) ((q9.1 + (f_X9_barn v (nI k9) 8)), (q9.2.1 + (f_X9_barn v (nI k9) 7)), 1) (by rw [lp_L_areBarnsSo_9_s, ← hq9]; unfold st_L_areBarnsSo_9; rw [← hq36]; unfold f_L_areBarnsSo_36_x; rw [← hq130]; unfold f_L_areBarnsSo_130_x; rw [if_neg c_21, if_neg c_22, if_pos c_23, if_pos c_24, if_neg c_25, if_pos c_36, if_neg c_37, if_pos c_38, if_pos c_39]; try rfl) (by omega) (by omega) _ _ _ hP hD hS (lv_sub hl [0, 1, 2, 3, 12] rfl)
                                    · refine lv_iload hx hb dL_areBarnsSo_357 (lv_at hl 2 rfl) ?_
                                      refine lv_iload hx hb dL_areBarnsSo_359 (lv_at hl 9 rfl) ?_
                                      refine lv_if_ne (tgt := 368) hx hb dL_areBarnsSo_361 (by decide) (fun c_40 => ?_) (fun c_40 => absurd c_40 c_21)
                                      refine lv_iload hx hb dL_areBarnsSo_368 (lv_at hl 5 rfl) ?_
                                      refine lv_if_ne (tgt := 377) hx hb dL_areBarnsSo_370 (by decide) (fun c_41 => ?_) (fun c_41 => ?_)
                                      · refine lv_iload hx hb dL_areBarnsSo_377 (lv_at hl 4 rfl) ?_
                                        refine lv_if_ne (tgt := 386) hx hb dL_areBarnsSo_379 (by decide) (fun c_42 => ?_) (fun c_42 => ?_)
                                        · refine lv_iconst (v := 0) hx hb dL_areBarnsSo_386 (by decide) ?_
                                          refine lv_icmp_ne (tgt := 394) hx hb dL_areBarnsSo_387 (by decide) (fun c_43 => ?_) (fun c_43 => ?_)
                                          · refine lv_iconst (v := 0) hx hb dL_areBarnsSo_394 (by decide) ?_
                                            refine lv_istore_n (lv' := [(3, .int 0), (2, .int (q9.2.1 + (f_X9_barn v (nI k9) 7))), (1, .int (q9.1 + (f_X9_barn v (nI k9) 8))), (12, .int (f_X9_barn v (nI k9) 6)), (11, .int ((((f_X9_barn v (nI k9) 1) * q36.2.2.1) / q36.1) - (q36.2.2.2 / 10))), (10, .int q130.2), (9, .int q130.1), (8, .int q36.2.2.2), (7, .int q36.2.2.1), (6, .int q36.2.1), (5, .int q36.1), (4, .int (nI k9)), (0, .ref h)]) hx hb dL_areBarnsSo_395 rfl hl (by decide) rfl (fun ls hl => ?_)
                                            refine lv_iinc (v := nI (k9 + 1)) (lv' := [(4, .int (nI (k9 + 1))), (3, .int 0), (2, .int (q9.2.1 + (f_X9_barn v (nI k9) 7))), (1, .int (q9.1 + (f_X9_barn v (nI k9) 8))), (12, .int (f_X9_barn v (nI k9) 6)), (11, .int ((((f_X9_barn v (nI k9) 1) * q36.2.2.1) / q36.1) - (q36.2.2.2 / 10))), (10, .int q130.2), (9, .int q130.1), (8, .int q36.2.2.2), (7, .int q36.2.2.1), (6, .int q36.2.1), (5, .int q36.1), (0, .ref h)]) hx hb dL_areBarnsSo_396 hl (k := 11) rfl (nI_add k9 1) (by decide) rfl (fun ls hl => ?_)
                                            refine lv_goto (tgt := 9) hx hb dL_areBarnsSo_399 (by decide) ?_
                                            exact ih9 (k9 + 1) ((q9.1 + (f_X9_barn v (nI k9) 8)), (q9.2.1 + (f_X9_barn v (nI k9) 7)), 0) (by rw [lp_L_areBarnsSo_9_s, ← hq9]; unfold st_L_areBarnsSo_9; rw [← hq36]; unfold f_L_areBarnsSo_36_x; rw [← hq130]; unfold f_L_areBarnsSo_130_x; rw [if_neg c_21, if_neg c_22, if_pos c_23, if_pos c_24, if_neg c_25, if_pos c_36, if_neg c_37, if_pos c_38, if_neg c_39, if_neg c_41, if_neg c_42, if_neg c_43]; try rfl) (by omega) (by omega) _ _ _ hP hD hS (lv_sub hl [0, 1, 2, 3, 12] rfl)
                                          · refine lv_iconst (v := 1) hx hb dL_areBarnsSo_390 (by decide) ?_
                                            refine lv_goto (tgt := 395) hx hb dL_areBarnsSo_391 (by decide) ?_
                                            refine lv_istore_n (lv' := [(3, .int 1), (2, .int (q9.2.1 + (f_X9_barn v (nI k9) 7))), (1, .int (q9.1 + (f_X9_barn v (nI k9) 8))), (12, .int (f_X9_barn v (nI k9) 6)), (11, .int ((((f_X9_barn v (nI k9) 1) * q36.2.2.1) / q36.1) - (q36.2.2.2 / 10))), (10, .int q130.2), (9, .int q130.1), (8, .int q36.2.2.2), (7, .int q36.2.2.1), (6, .int q36.2.1), (5, .int q36.1), (4, .int (nI k9)), (0, .ref h)]) hx hb dL_areBarnsSo_395 rfl hl (by decide) rfl (fun ls hl => ?_)
                                            refine lv_iinc (v := nI (k9 + 1)) (lv' := [(4, .int (nI (k9 + 1))), (3, .int 1), (2, .int (q9.2.1 + (f_X9_barn v (nI k9) 7))), (1, .int (q9.1 + (f_X9_barn v (nI k9) 8))), (12, .int (f_X9_barn v (nI k9) 6)), (11, .int ((((f_X9_barn v (nI k9) 1) * q36.2.2.1) / q36.1) - (q36.2.2.2 / 10))), (10, .int q130.2), (9, .int q130.1), (8, .int q36.2.2.2), (7, .int q36.2.2.1), (6, .int q36.2.1), (5, .int q36.1), (0, .ref h)]) hx hb dL_areBarnsSo_396 hl (k := 11) rfl (nI_add k9 1) (by decide) rfl (fun ls hl => ?_)
                                            refine lv_goto (tgt := 9) hx hb dL_areBarnsSo_399 (by decide) ?_
                                            exact ih9 (k9 + 1) ((q9.1 + (f_X9_barn v (nI k9) 8)), (q9.2.1 + (f_X9_barn v (nI k9) 7)), 1) (by rw [lp_L_areBarnsSo_9_s, ← hq9]; unfold st_L_areBarnsSo_9; rw [← hq36]; unfold f_L_areBarnsSo_36_x; rw [← hq130]; unfold f_L_areBarnsSo_130_x; rw [if_neg c_21, if_neg c_22, if_pos c_23, if_pos c_24, if_neg c_25, if_pos c_36, if_neg c_37, if_pos c_38, if_neg c_39, if_neg c_41, if_neg c_42, if_pos c_43]; try rfl) (by omega) (by omega) _ _ _ hP hD hS (lv_sub hl [0, 1, 2, 3, 12] rfl)
                                        · refine lv_iconst (v := 4) hx hb dL_areBarnsSo_382 (by decide) ?_
                                          refine lv_goto (tgt := 387) hx hb dL_areBarnsSo_383 (by decide) ?_
                                          refine lv_icmp_ne (tgt := 394) hx hb dL_areBarnsSo_387 (by decide) (fun c_44 => ?_) (fun c_44 => ?_)
                                          · refine lv_iconst (v := 0) hx hb dL_areBarnsSo_394 (by decide) ?_
                                            refine lv_istore_n (lv' := [(3, .int 0), (2, .int (q9.2.1 + (f_X9_barn v (nI k9) 7))), (1, .int (q9.1 + (f_X9_barn v (nI k9) 8))), (12, .int (f_X9_barn v (nI k9) 6)), (11, .int ((((f_X9_barn v (nI k9) 1) * q36.2.2.1) / q36.1) - (q36.2.2.2 / 10))), (10, .int q130.2), (9, .int q130.1), (8, .int q36.2.2.2), (7, .int q36.2.2.1), (6, .int q36.2.1), (5, .int q36.1), (4, .int (nI k9)), (0, .ref h)]) hx hb dL_areBarnsSo_395 rfl hl (by decide) rfl (fun ls hl => ?_)
                                            refine lv_iinc (v := nI (k9 + 1)) (lv' := [(4, .int (nI (k9 + 1))), (3, .int 0), (2, .int (q9.2.1 + (f_X9_barn v (nI k9) 7))), (1, .int (q9.1 + (f_X9_barn v (nI k9) 8))), (12, .int (f_X9_barn v (nI k9) 6)), (11, .int ((((f_X9_barn v (nI k9) 1) * q36.2.2.1) / q36.1) - (q36.2.2.2 / 10))), (10, .int q130.2), (9, .int q130.1), (8, .int q36.2.2.2), (7, .int q36.2.2.1), (6, .int q36.2.1), (5, .int q36.1), (0, .ref h)]) hx hb dL_areBarnsSo_396 hl (k := 11) rfl (nI_add k9 1) (by decide) rfl (fun ls hl => ?_)
                                            refine lv_goto (tgt := 9) hx hb dL_areBarnsSo_399 (by decide) ?_
                                            exact ih9 (k9 + 1) ((q9.1 + (f_X9_barn v (nI k9) 8)), (q9.2.1 + (f_X9_barn v (nI k9) 7)), 0) (by rw [lp_L_areBarnsSo_9_s, ← hq9]; unfold st_L_areBarnsSo_9; rw [← hq36]; unfold f_L_areBarnsSo_36_x; rw [← hq130]; unfold f_L_areBarnsSo_130_x; rw [if_neg c_21, if_neg c_22, if_pos c_23, if_pos c_24, if_neg c_25, if_pos c_36, if_neg c_37, if_pos c_38, if_neg c_39, if_neg c_41, if_pos c_42, if_neg c_44]; try rfl) (by omega) (by omega) _ _ _ hP hD hS (lv_sub hl [0, 1, 2, 3, 12] rfl)
                                          · refine lv_iconst (v := 1) hx hb dL_areBarnsSo_390 (by decide) ?_
                                            refine lv_goto (tgt := 395) hx hb dL_areBarnsSo_391 (by decide) ?_
                                            refine lv_istore_n (lv' := [(3, .int 1), (2, .int (q9.2.1 + (f_X9_barn v (nI k9) 7))), (1, .int (q9.1 + (f_X9_barn v (nI k9) 8))), (12, .int (f_X9_barn v (nI k9) 6)), (11, .int ((((f_X9_barn v (nI k9) 1) * q36.2.2.1) / q36.1) - (q36.2.2.2 / 10))), (10, .int q130.2), (9, .int q130.1), (8, .int q36.2.2.2), (7, .int q36.2.2.1), (6, .int q36.2.1), (5, .int q36.1), (4, .int (nI k9)), (0, .ref h)]) hx hb dL_areBarnsSo_395 rfl hl (by decide) rfl (fun ls hl => ?_)
                                            refine lv_iinc (v := nI (k9 + 1)) (lv' := [(4, .int (nI (k9 + 1))), (3, .int 1), (2, .int (q9.2.1 + (f_X9_barn v (nI k9) 7))), (1, .int (q9.1 + (f_X9_barn v (nI k9) 8))), (12, .int (f_X9_barn v (nI k9) 6)), (11, .int ((((f_X9_barn v (nI k9) 1) * q36.2.2.1) / q36.1) - (q36.2.2.2 / 10))), (10, .int q130.2), (9, .int q130.1), (8, .int q36.2.2.2), (7, .int q36.2.2.1), (6, .int q36.2.1), (5, .int q36.1), (0, .ref h)]) hx hb dL_areBarnsSo_396 hl (k := 11) rfl (nI_add k9 1) (by decide) rfl (fun ls hl => ?_)
                                            refine lv_goto (tgt := 9) hx hb dL_areBarnsSo_399 (by decide) ?_
                                            exact ih9 (k9 + 1) ((q9.1 + (f_X9_barn v (nI k9) 8)), (q9.2.1 + (f_X9_barn v (nI k9) 7)), 1) (by rw [lp_L_areBarnsSo_9_s, ← hq9]; unfold st_L_areBarnsSo_9; rw [← hq36]; unfold f_L_areBarnsSo_36_x; rw [← hq130]; unfold f_L_areBarnsSo_130_x; rw [if_neg c_21, if_neg c_22, if_pos c_23, if_pos c_24, if_neg c_25, if_pos c_36, if_neg c_37, if_pos c_38, if_neg c_39, if_neg c_41, if_pos c_42, if_pos c_44]; try rfl) (by omega) (by omega) _ _ _ hP hD hS (lv_sub hl [0, 1, 2, 3, 12] rfl)
                                      · refine lv_iconst (v := 3) hx hb dL_areBarnsSo_373 (by decide) ?_
                                        refine lv_goto (tgt := 387) hx hb dL_areBarnsSo_374 (by decide) ?_
                                        refine lv_icmp_ne (tgt := 394) hx hb dL_areBarnsSo_387 (by decide) (fun c_45 => ?_) (fun c_45 => ?_)
                                        · refine lv_iconst (v := 0) hx hb dL_areBarnsSo_394 (by decide) ?_
                                          refine lv_istore_n (lv' := [(3, .int 0), (2, .int (q9.2.1 + (f_X9_barn v (nI k9) 7))), (1, .int (q9.1 + (f_X9_barn v (nI k9) 8))), (12, .int (f_X9_barn v (nI k9) 6)), (11, .int ((((f_X9_barn v (nI k9) 1) * q36.2.2.1) / q36.1) - (q36.2.2.2 / 10))), (10, .int q130.2), (9, .int q130.1), (8, .int q36.2.2.2), (7, .int q36.2.2.1), (6, .int q36.2.1), (5, .int q36.1), (4, .int (nI k9)), (0, .ref h)]) hx hb dL_areBarnsSo_395 rfl hl (by decide) rfl (fun ls hl => ?_)
                                          refine lv_iinc (v := nI (k9 + 1)) (lv' := [(4, .int (nI (k9 + 1))), (3, .int 0), (2, .int (q9.2.1 + (f_X9_barn v (nI k9) 7))), (1, .int (q9.1 + (f_X9_barn v (nI k9) 8))), (12, .int (f_X9_barn v (nI k9) 6)), (11, .int ((((f_X9_barn v (nI k9) 1) * q36.2.2.1) / q36.1) - (q36.2.2.2 / 10))), (10, .int q130.2), (9, .int q130.1), (8, .int q36.2.2.2), (7, .int q36.2.2.1), (6, .int q36.2.1), (5, .int q36.1), (0, .ref h)]) hx hb dL_areBarnsSo_396 hl (k := 11) rfl (nI_add k9 1) (by decide) rfl (fun ls hl => ?_)
                                          refine lv_goto (tgt := 9) hx hb dL_areBarnsSo_399 (by decide) ?_
                                          exact ih9 (k9 + 1) ((q9.1 + (f_X9_barn v (nI k9) 8)), (q9.2.1 + (f_X9_barn v (nI k9) 7)), 0) (by rw [lp_L_areBarnsSo_9_s, ← hq9]; unfold st_L_areBarnsSo_9; rw [← hq36]; unfold f_L_areBarnsSo_36_x; rw [← hq130]; unfold f_L_areBarnsSo_130_x; rw [if_neg c_21, if_neg c_22, if_pos c_23, if_pos c_24, if_neg c_25, if_pos c_36, if_neg c_37, if_pos c_38, if_neg c_39, if_pos c_41, if_neg c_45]; try rfl) (by omega) (by omega) _ _ _ hP hD hS (lv_sub hl [0, 1, 2, 3, 12] rfl)
                                        · refine lv_iconst (v := 1) hx hb dL_areBarnsSo_390 (by decide) ?_
                                          refine lv_goto (tgt := 395) hx hb dL_areBarnsSo_391 (by decide) ?_
                                          refine lv_istore_n (lv' := [(3, .int 1), (2, .int (q9.2.1 + (f_X9_barn v (nI k9) 7))), (1, .int (q9.1 + (f_X9_barn v (nI k9) 8))), (12, .int (f_X9_barn v (nI k9) 6)), (11, .int ((((f_X9_barn v (nI k9) 1) * q36.2.2.1) / q36.1) - (q36.2.2.2 / 10))), (10, .int q130.2), (9, .int q130.1), (8, .int q36.2.2.2), (7, .int q36.2.2.1), (6, .int q36.2.1), (5, .int q36.1), (4, .int (nI k9)), (0, .ref h)]) hx hb dL_areBarnsSo_395 rfl hl (by decide) rfl (fun ls hl => ?_)
                                          refine lv_iinc (v := nI (k9 + 1)) (lv' := [(4, .int (nI (k9 + 1))), (3, .int 1), (2, .int (q9.2.1 + (f_X9_barn v (nI k9) 7))), (1, .int (q9.1 + (f_X9_barn v (nI k9) 8))), (12, .int (f_X9_barn v (nI k9) 6)), (11, .int ((((f_X9_barn v (nI k9) 1) * q36.2.2.1) / q36.1) - (q36.2.2.2 / 10))), (10, .int q130.2), (9, .int q130.1), (8, .int q36.2.2.2), (7, .int q36.2.2.1), (6, .int q36.2.1), (5, .int q36.1), (0, .ref h)]) hx hb dL_areBarnsSo_396 hl (k := 11) rfl (nI_add k9 1) (by decide) rfl (fun ls hl => ?_)
                                          refine lv_goto (tgt := 9) hx hb dL_areBarnsSo_399 (by decide) ?_
                                          exact ih9 (k9 + 1) ((q9.1 + (f_X9_barn v (nI k9) 8)), (q9.2.1 + (f_X9_barn v (nI k9) 7)), 1) (by rw [lp_L_areBarnsSo_9_s, ← hq9]; unfold st_L_areBarnsSo_9; rw [← hq36]; unfold f_L_areBarnsSo_36_x; rw [← hq130]; unfold f_L_areBarnsSo_130_x; rw [if_neg c_21, if_neg c_22, if_pos c_23, if_pos c_24, if_neg c_25, if_pos c_36, if_neg c_37, if_pos c_38, if_neg c_39, if_pos c_41, if_pos c_45]; try rfl) (by omega) (by omega) _ _ _ hP hD hS (lv_sub hl [0, 1, 2, 3, 12] rfl)
                    · refine lv_iconst (v := 0) hx hb dL_areBarnsSo_207 (by decide) ?_
                      refine lv_goto (tgt := 230) hx hb dL_areBarnsSo_208 (by decide) ?_
                      refine lv_istore (lv' := [(11, .int 0), (10, .int q130.2), (9, .int q130.1), (8, .int q36.2.2.2), (7, .int q36.2.2.1), (6, .int q36.2.1), (5, .int q36.1), (4, .int (nI k9)), (3, .int q9.2.2), (2, .int q9.2.1), (1, .int q9.1), (0, .ref h)]) hx hb dL_areBarnsSo_230 hl (by decide) rfl (fun ls hl => ?_)
                      refine lv_aload_n hx hb dL_areBarnsSo_232 rfl (lv_at hl 11 rfl) ?_
                      refine lv_iload hx hb dL_areBarnsSo_233 (lv_at hl 7 rfl) ?_
                      refine lv_bipush (v := 6) hx hb dL_areBarnsSo_235 (by decide) ?_
                      refine call_W (w1 := fun _ => wX9 z h a b c9 hh hh1 d0 d1 d2 d3 t9 t91 r9 r91 r92 r93 v) len9 (fun _ => len9) (rV (As := [.int (nI k9), .int 6]) (rest := []) ⟨hx, hb, hml, hown, hts⟩ (c_X9_barn l D z tM tS h a b c9 hh hh1 d0 d1 d2 d3 t9 t91 r9 r91 r92 r93 v (nI k9) 6 H.size) (cwV 2 hts gL_areBarnsSo_X9_barn rfl rfl rfl (by decide +kernel) ⟨Nat.le_trans (by decide) hRf, Nat.le_trans (by decide) hRl⟩) (ev_ok tM tS) (e_go (ev_ok tM tS) hE hD hS hA (List.range 128) (gN len9)) hK hP hD (List.range 128) nd128 (gN len9) (va_recv hK hP (ci := 9) (q0 := 0) rfl rfl) rfl hl.1 rfl (Nat.le_of_ble_eq_true rfl) dL_areBarnsSo_237 ⟨Nat.zero_le _, Nat.zero_le _⟩) hK hP hD hS hA (fun zr zu H locs hw hP hD hS => ?_)
                      have hw : zr = (f_X9_barn v (nI k9) 6) := hw
                      subst hw
                      have hP : va_P D vwCl (wX9 z h a b c9 hh hh1 d0 d1 d2 d3 t9 t91 r9 r91 r92 r93 v) H := hP
                      have hD : va_D A (wX9 z h a b c9 hh hh1 d0 d1 d2 d3 t9 t91 r9 r91 r92 r93 v) := hD
                      refine lv_istore (lv' := [(12, .int (f_X9_barn v (nI k9) 6)), (11, .int 0), (10, .int q130.2), (9, .int q130.1), (8, .int q36.2.2.2), (7, .int q36.2.2.1), (6, .int q36.2.1), (5, .int q36.1), (4, .int (nI k9)), (3, .int q9.2.2), (2, .int q9.2.1), (1, .int q9.1), (0, .ref h)]) hx hb dL_areBarnsSo_240 hl (by decide) rfl (fun ls hl => ?_)
                      refine lv_iload_n hx hb dL_areBarnsSo_242 rfl (lv_at hl 11 rfl) ?_
                      refine lv_aload_n hx hb dL_areBarnsSo_243 rfl (lv_at hl 12 rfl) ?_
                      refine lv_iload hx hb dL_areBarnsSo_244 (lv_at hl 8 rfl) ?_
                      refine lv_bipush (v := 8) hx hb dL_areBarnsSo_246 (by decide) ?_
                      refine call_W (w1 := fun _ => wX9 z h a b c9 hh hh1 d0 d1 d2 d3 t9 t91 r9 r91 r92 r93 v) len9 (fun _ => len9) (rV (As := [.int (nI k9), .int 8]) (rest := [.int q9.1]) ⟨hx, hb, hml, hown, hts⟩ (c_X9_barn l D z tM tS h a b c9 hh hh1 d0 d1 d2 d3 t9 t91 r9 r91 r92 r93 v (nI k9) 8 H.size) (cwV 2 hts gL_areBarnsSo_X9_barn rfl rfl rfl (by decide +kernel) ⟨Nat.le_trans (by decide) hRf, Nat.le_trans (by decide) hRl⟩) (ev_ok tM tS) (e_go (ev_ok tM tS) hE hD hS hA (List.range 128) (gN len9)) hK hP hD (List.range 128) nd128 (gN len9) (va_recv hK hP (ci := 9) (q0 := 0) rfl rfl) rfl hl.1 rfl (Nat.le_of_ble_eq_true rfl) dL_areBarnsSo_248 ⟨Nat.zero_le _, Nat.zero_le _⟩) hK hP hD hS hA (fun zr zu H locs hw hP hD hS => ?_)
                      have hw : zr = (f_X9_barn v (nI k9) 8) := hw
                      subst hw
                      have hP : va_P D vwCl (wX9 z h a b c9 hh hh1 d0 d1 d2 d3 t9 t91 r9 r91 r92 r93 v) H := hP
                      have hD : va_D A (wX9 z h a b c9 hh hh1 d0 d1 d2 d3 t9 t91 r9 r91 r92 r93 v) := hD
                      refine lv_iadd hx hb dL_areBarnsSo_251 ?_
                      refine lv_istore_n (lv' := [(1, .int (q9.1 + (f_X9_barn v (nI k9) 8))), (12, .int (f_X9_barn v (nI k9) 6)), (11, .int 0), (10, .int q130.2), (9, .int q130.1), (8, .int q36.2.2.2), (7, .int q36.2.2.1), (6, .int q36.2.1), (5, .int q36.1), (4, .int (nI k9)), (3, .int q9.2.2), (2, .int q9.2.1), (0, .ref h)]) hx hb dL_areBarnsSo_252 rfl hl (by decide) rfl (fun ls hl => ?_)
                      refine lv_iload_n hx hb dL_areBarnsSo_253 rfl (lv_at hl 11 rfl) ?_
                      refine lv_aload_n hx hb dL_areBarnsSo_254 rfl (lv_at hl 12 rfl) ?_
                      refine lv_iload hx hb dL_areBarnsSo_255 (lv_at hl 9 rfl) ?_
                      refine lv_bipush (v := 7) hx hb dL_areBarnsSo_257 (by decide) ?_
                      refine call_W (w1 := fun _ => wX9 z h a b c9 hh hh1 d0 d1 d2 d3 t9 t91 r9 r91 r92 r93 v) len9 (fun _ => len9) (rV (As := [.int (nI k9), .int 7]) (rest := [.int q9.2.1]) ⟨hx, hb, hml, hown, hts⟩ (c_X9_barn l D z tM tS h a b c9 hh hh1 d0 d1 d2 d3 t9 t91 r9 r91 r92 r93 v (nI k9) 7 H.size) (cwV 2 hts gL_areBarnsSo_X9_barn rfl rfl rfl (by decide +kernel) ⟨Nat.le_trans (by decide) hRf, Nat.le_trans (by decide) hRl⟩) (ev_ok tM tS) (e_go (ev_ok tM tS) hE hD hS hA (List.range 128) (gN len9)) hK hP hD (List.range 128) nd128 (gN len9) (va_recv hK hP (ci := 9) (q0 := 0) rfl rfl) rfl hl.1 rfl (Nat.le_of_ble_eq_true rfl) dL_areBarnsSo_259 ⟨Nat.zero_le _, Nat.zero_le _⟩) hK hP hD hS hA (fun zr zu H locs hw hP hD hS => ?_)
                      have hw : zr = (f_X9_barn v (nI k9) 7) := hw
                      subst hw
                      have hP : va_P D vwCl (wX9 z h a b c9 hh hh1 d0 d1 d2 d3 t9 t91 r9 r91 r92 r93 v) H := hP
                      have hD : va_D A (wX9 z h a b c9 hh hh1 d0 d1 d2 d3 t9 t91 r9 r91 r92 r93 v) := hD
                      refine lv_iadd hx hb dL_areBarnsSo_262 ?_
                      refine lv_istore_n (lv' := [(2, .int (q9.2.1 + (f_X9_barn v (nI k9) 7))), (1, .int (q9.1 + (f_X9_barn v (nI k9) 8))), (12, .int (f_X9_barn v (nI k9) 6)), (11, .int 0), (10, .int q130.2), (9, .int q130.1), (8, .int q36.2.2.2), (7, .int q36.2.2.1), (6, .int q36.2.1), (5, .int q36.1), (4, .int (nI k9)), (3, .int q9.2.2), (0, .ref h)]) hx hb dL_areBarnsSo_263 rfl hl (by decide) rfl (fun ls hl => ?_)
                      refine lv_iload_n hx hb dL_areBarnsSo_264 rfl (lv_at hl 11 rfl) ?_
                      refine lv_if_eq (tgt := 394) hx hb dL_areBarnsSo_265 (by decide) (fun c_46 => ?_) (fun c_46 => ?_)
                      · refine lv_iconst (v := 0) hx hb dL_areBarnsSo_394 (by decide) ?_
                        refine lv_istore_n (lv' := [(3, .int 0), (2, .int (q9.2.1 + (f_X9_barn v (nI k9) 7))), (1, .int (q9.1 + (f_X9_barn v (nI k9) 8))), (12, .int (f_X9_barn v (nI k9) 6)), (11, .int 0), (10, .int q130.2), (9, .int q130.1), (8, .int q36.2.2.2), (7, .int q36.2.2.1), (6, .int q36.2.1), (5, .int q36.1), (4, .int (nI k9)), (0, .ref h)]) hx hb dL_areBarnsSo_395 rfl hl (by decide) rfl (fun ls hl => ?_)
                        refine lv_iinc (v := nI (k9 + 1)) (lv' := [(4, .int (nI (k9 + 1))), (3, .int 0), (2, .int (q9.2.1 + (f_X9_barn v (nI k9) 7))), (1, .int (q9.1 + (f_X9_barn v (nI k9) 8))), (12, .int (f_X9_barn v (nI k9) 6)), (11, .int 0), (10, .int q130.2), (9, .int q130.1), (8, .int q36.2.2.2), (7, .int q36.2.2.1), (6, .int q36.2.1), (5, .int q36.1), (0, .ref h)]) hx hb dL_areBarnsSo_396 hl (k := 11) rfl (nI_add k9 1) (by decide) rfl (fun ls hl => ?_)
                        refine lv_goto (tgt := 9) hx hb dL_areBarnsSo_399 (by decide) ?_
                        exact ih9 (k9 + 1) ((q9.1 + (f_X9_barn v (nI k9) 8)), (q9.2.1 + (f_X9_barn v (nI k9) 7)), 0) (by rw [lp_L_areBarnsSo_9_s, ← hq9]; unfold st_L_areBarnsSo_9; rw [← hq36]; unfold f_L_areBarnsSo_36_x; rw [← hq130]; unfold f_L_areBarnsSo_130_x; rw [if_pos c_21, if_pos c_46]; try rfl) (by omega) (by omega) _ _ _ hP hD hS (lv_sub hl [0, 1, 2, 3, 12] rfl)
                      · refine lv_aload_n hx hb dL_areBarnsSo_268 rfl (lv_at hl 12 rfl) ?_
                        refine lv_iload hx hb dL_areBarnsSo_269 (lv_at hl 10 rfl) ?_
                        refine lv_iconst (v := 3) hx hb dL_areBarnsSo_271 (by decide) ?_
                        refine call_W (w1 := fun _ => wX9 z h a b c9 hh hh1 d0 d1 d2 d3 t9 t91 r9 r91 r92 r93 v) len9 (fun _ => len9) (rV (As := [.int (nI k9), .int 3]) (rest := []) ⟨hx, hb, hml, hown, hts⟩ (c_X9_barn l D z tM tS h a b c9 hh hh1 d0 d1 d2 d3 t9 t91 r9 r91 r92 r93 v (nI k9) 3 H.size) (cwV 2 hts gL_areBarnsSo_X9_barn rfl rfl rfl (by decide +kernel) ⟨Nat.le_trans (by decide) hRf, Nat.le_trans (by decide) hRl⟩) (ev_ok tM tS) (e_go (ev_ok tM tS) hE hD hS hA (List.range 128) (gN len9)) hK hP hD (List.range 128) nd128 (gN len9) (va_recv hK hP (ci := 9) (q0 := 0) rfl rfl) rfl hl.1 rfl (Nat.le_of_ble_eq_true rfl) dL_areBarnsSo_272 ⟨Nat.zero_le _, Nat.zero_le _⟩) hK hP hD hS hA (fun zr zu H locs hw hP hD hS => ?_)
                        have hw : zr = (f_X9_barn v (nI k9) 3) := hw
                        subst hw
                        have hP : va_P D vwCl (wX9 z h a b c9 hh hh1 d0 d1 d2 d3 t9 t91 r9 r91 r92 r93 v) H := hP
                        have hD : va_D A (wX9 z h a b c9 hh hh1 d0 d1 d2 d3 t9 t91 r9 r91 r92 r93 v) := hD
                        refine lv_iload hx hb dL_areBarnsSo_275 (lv_at hl 9 rfl) ?_
                        refine lv_icmp_ne (tgt := 394) hx hb dL_areBarnsSo_277 (by decide) (fun c_47 => ?_) (fun c_47 => ?_)
                        · refine lv_iconst (v := 0) hx hb dL_areBarnsSo_394 (by decide) ?_
                          refine lv_istore_n (lv' := [(3, .int 0), (2, .int (q9.2.1 + (f_X9_barn v (nI k9) 7))), (1, .int (q9.1 + (f_X9_barn v (nI k9) 8))), (12, .int (f_X9_barn v (nI k9) 6)), (11, .int 0), (10, .int q130.2), (9, .int q130.1), (8, .int q36.2.2.2), (7, .int q36.2.2.1), (6, .int q36.2.1), (5, .int q36.1), (4, .int (nI k9)), (0, .ref h)]) hx hb dL_areBarnsSo_395 rfl hl (by decide) rfl (fun ls hl => ?_)
                          refine lv_iinc (v := nI (k9 + 1)) (lv' := [(4, .int (nI (k9 + 1))), (3, .int 0), (2, .int (q9.2.1 + (f_X9_barn v (nI k9) 7))), (1, .int (q9.1 + (f_X9_barn v (nI k9) 8))), (12, .int (f_X9_barn v (nI k9) 6)), (11, .int 0), (10, .int q130.2), (9, .int q130.1), (8, .int q36.2.2.2), (7, .int q36.2.2.1), (6, .int q36.2.1), (5, .int q36.1), (0, .ref h)]) hx hb dL_areBarnsSo_396 hl (k := 11) rfl (nI_add k9 1) (by decide) rfl (fun ls hl => ?_)
                          refine lv_goto (tgt := 9) hx hb dL_areBarnsSo_399 (by decide) ?_
                          exact ih9 (k9 + 1) ((q9.1 + (f_X9_barn v (nI k9) 8)), (q9.2.1 + (f_X9_barn v (nI k9) 7)), 0) (by rw [lp_L_areBarnsSo_9_s, ← hq9]; unfold st_L_areBarnsSo_9; rw [← hq36]; unfold f_L_areBarnsSo_36_x; rw [← hq130]; unfold f_L_areBarnsSo_130_x; rw [if_pos c_21, if_neg c_46, if_neg c_47]; try rfl) (by omega) (by omega) _ _ _ hP hD hS (lv_sub hl [0, 1, 2, 3, 12] rfl)
                        · refine lv_aload_n hx hb dL_areBarnsSo_280 rfl (lv_at hl 12 rfl) ?_
                          refine lv_iload hx hb dL_areBarnsSo_281 (lv_at hl 10 rfl) ?_
                          refine lv_iconst (v := 4) hx hb dL_areBarnsSo_283 (by decide) ?_
                          refine call_W (w1 := fun _ => wX9 z h a b c9 hh hh1 d0 d1 d2 d3 t9 t91 r9 r91 r92 r93 v) len9 (fun _ => len9) (rV (As := [.int (nI k9), .int 4]) (rest := []) ⟨hx, hb, hml, hown, hts⟩ (c_X9_barn l D z tM tS h a b c9 hh hh1 d0 d1 d2 d3 t9 t91 r9 r91 r92 r93 v (nI k9) 4 H.size) (cwV 2 hts gL_areBarnsSo_X9_barn rfl rfl rfl (by decide +kernel) ⟨Nat.le_trans (by decide) hRf, Nat.le_trans (by decide) hRl⟩) (ev_ok tM tS) (e_go (ev_ok tM tS) hE hD hS hA (List.range 128) (gN len9)) hK hP hD (List.range 128) nd128 (gN len9) (va_recv hK hP (ci := 9) (q0 := 0) rfl rfl) rfl hl.1 rfl (Nat.le_of_ble_eq_true rfl) dL_areBarnsSo_284 ⟨Nat.zero_le _, Nat.zero_le _⟩) hK hP hD hS hA (fun zr zu H locs hw hP hD hS => ?_)
                          have hw : zr = (f_X9_barn v (nI k9) 4) := hw
                          subst hw
                          have hP : va_P D vwCl (wX9 z h a b c9 hh hh1 d0 d1 d2 d3 t9 t91 r9 r91 r92 r93 v) H := hP
                          have hD : va_D A (wX9 z h a b c9 hh hh1 d0 d1 d2 d3 t9 t91 r9 r91 r92 r93 v) := hD
                          refine lv_iload hx hb dL_areBarnsSo_287 (lv_at hl 8 rfl) ?_
                          refine lv_icmp_ne (tgt := 394) hx hb dL_areBarnsSo_289 (by decide) (fun c_48 => ?_) (fun c_48 => ?_)
                          · refine lv_iconst (v := 0) hx hb dL_areBarnsSo_394 (by decide) ?_
                            refine lv_istore_n (lv' := [(3, .int 0), (2, .int (q9.2.1 + (f_X9_barn v (nI k9) 7))), (1, .int (q9.1 + (f_X9_barn v (nI k9) 8))), (12, .int (f_X9_barn v (nI k9) 6)), (11, .int 0), (10, .int q130.2), (9, .int q130.1), (8, .int q36.2.2.2), (7, .int q36.2.2.1), (6, .int q36.2.1), (5, .int q36.1), (4, .int (nI k9)), (0, .ref h)]) hx hb dL_areBarnsSo_395 rfl hl (by decide) rfl (fun ls hl => ?_)
                            refine lv_iinc (v := nI (k9 + 1)) (lv' := [(4, .int (nI (k9 + 1))), (3, .int 0), (2, .int (q9.2.1 + (f_X9_barn v (nI k9) 7))), (1, .int (q9.1 + (f_X9_barn v (nI k9) 8))), (12, .int (f_X9_barn v (nI k9) 6)), (11, .int 0), (10, .int q130.2), (9, .int q130.1), (8, .int q36.2.2.2), (7, .int q36.2.2.1), (6, .int q36.2.1), (5, .int q36.1), (0, .ref h)]) hx hb dL_areBarnsSo_396 hl (k := 11) rfl (nI_add k9 1) (by decide) rfl (fun ls hl => ?_)
                            refine lv_goto (tgt := 9) hx hb dL_areBarnsSo_399 (by decide) ?_
                            exact ih9 (k9 + 1) ((q9.1 + (f_X9_barn v (nI k9) 8)), (q9.2.1 + (f_X9_barn v (nI k9) 7)), 0) (by rw [lp_L_areBarnsSo_9_s, ← hq9]; unfold st_L_areBarnsSo_9; rw [← hq36]; unfold f_L_areBarnsSo_36_x; rw [← hq130]; unfold f_L_areBarnsSo_130_x; rw [if_pos c_21, if_neg c_46, if_pos c_47, if_neg c_48]; try rfl) (by omega) (by omega) _ _ _ hP hD hS (lv_sub hl [0, 1, 2, 3, 12] rfl)
                          · refine lv_aload_n hx hb dL_areBarnsSo_292 rfl (lv_at hl 12 rfl) ?_
                            refine lv_iload hx hb dL_areBarnsSo_293 (lv_at hl 10 rfl) ?_
                            refine lv_iconst (v := 5) hx hb dL_areBarnsSo_295 (by decide) ?_
                            refine call_W (w1 := fun _ => wX9 z h a b c9 hh hh1 d0 d1 d2 d3 t9 t91 r9 r91 r92 r93 v) len9 (fun _ => len9) (rV (As := [.int (nI k9), .int 5]) (rest := []) ⟨hx, hb, hml, hown, hts⟩ (c_X9_barn l D z tM tS h a b c9 hh hh1 d0 d1 d2 d3 t9 t91 r9 r91 r92 r93 v (nI k9) 5 H.size) (cwV 2 hts gL_areBarnsSo_X9_barn rfl rfl rfl (by decide +kernel) ⟨Nat.le_trans (by decide) hRf, Nat.le_trans (by decide) hRl⟩) (ev_ok tM tS) (e_go (ev_ok tM tS) hE hD hS hA (List.range 128) (gN len9)) hK hP hD (List.range 128) nd128 (gN len9) (va_recv hK hP (ci := 9) (q0 := 0) rfl rfl) rfl hl.1 rfl (Nat.le_of_ble_eq_true rfl) dL_areBarnsSo_296 ⟨Nat.zero_le _, Nat.zero_le _⟩) hK hP hD hS hA (fun zr zu H locs hw hP hD hS => ?_)
                            have hw : zr = (f_X9_barn v (nI k9) 5) := hw
                            subst hw
                            have hP : va_P D vwCl (wX9 z h a b c9 hh hh1 d0 d1 d2 d3 t9 t91 r9 r91 r92 r93 v) H := hP
                            have hD : va_D A (wX9 z h a b c9 hh hh1 d0 d1 d2 d3 t9 t91 r9 r91 r92 r93 v) := hD
                            refine lv_iload hx hb dL_areBarnsSo_299 (lv_at hl 3 rfl) ?_
                            refine lv_if_ge (tgt := 308) hx hb dL_areBarnsSo_301 (by decide) (fun c_49 => ?_) (fun c_49 => absurd c_49 (by decide))
                            refine lv_iload hx hb dL_areBarnsSo_308 (lv_at hl 3 rfl) ?_
                            refine lv_icmp_ne (tgt := 394) hx hb dL_areBarnsSo_310 (by decide) (fun c_50 => ?_) (fun c_50 => ?_)
                            · refine lv_iconst (v := 0) hx hb dL_areBarnsSo_394 (by decide) ?_
                              refine lv_istore_n (lv' := [(3, .int 0), (2, .int (q9.2.1 + (f_X9_barn v (nI k9) 7))), (1, .int (q9.1 + (f_X9_barn v (nI k9) 8))), (12, .int (f_X9_barn v (nI k9) 6)), (11, .int 0), (10, .int q130.2), (9, .int q130.1), (8, .int q36.2.2.2), (7, .int q36.2.2.1), (6, .int q36.2.1), (5, .int q36.1), (4, .int (nI k9)), (0, .ref h)]) hx hb dL_areBarnsSo_395 rfl hl (by decide) rfl (fun ls hl => ?_)
                              refine lv_iinc (v := nI (k9 + 1)) (lv' := [(4, .int (nI (k9 + 1))), (3, .int 0), (2, .int (q9.2.1 + (f_X9_barn v (nI k9) 7))), (1, .int (q9.1 + (f_X9_barn v (nI k9) 8))), (12, .int (f_X9_barn v (nI k9) 6)), (11, .int 0), (10, .int q130.2), (9, .int q130.1), (8, .int q36.2.2.2), (7, .int q36.2.2.1), (6, .int q36.2.1), (5, .int q36.1), (0, .ref h)]) hx hb dL_areBarnsSo_396 hl (k := 11) rfl (nI_add k9 1) (by decide) rfl (fun ls hl => ?_)
                              refine lv_goto (tgt := 9) hx hb dL_areBarnsSo_399 (by decide) ?_
                              exact ih9 (k9 + 1) ((q9.1 + (f_X9_barn v (nI k9) 8)), (q9.2.1 + (f_X9_barn v (nI k9) 7)), 0) (by rw [lp_L_areBarnsSo_9_s, ← hq9]; unfold st_L_areBarnsSo_9; rw [← hq36]; unfold f_L_areBarnsSo_36_x; rw [← hq130]; unfold f_L_areBarnsSo_130_x; rw [if_pos c_21, if_neg c_46, if_pos c_47, if_pos c_48, if_neg c_50]; try rfl) (by omega) (by omega) _ _ _ hP hD hS (lv_sub hl [0, 1, 2, 3, 12] rfl)
                            · refine lv_aload_n hx hb dL_areBarnsSo_313 rfl (lv_at hl 12 rfl) ?_
                              refine lv_iload hx hb dL_areBarnsSo_314 (lv_at hl 10 rfl) ?_
                              refine lv_iconst (v := 5) hx hb dL_areBarnsSo_316 (by decide) ?_
                              refine call_W (w1 := fun _ => wX9 z h a b c9 hh hh1 d0 d1 d2 d3 t9 t91 r9 r91 r92 r93 v) len9 (fun _ => len9) (rV (As := [.int (nI k9), .int 5]) (rest := []) ⟨hx, hb, hml, hown, hts⟩ (c_X9_barn l D z tM tS h a b c9 hh hh1 d0 d1 d2 d3 t9 t91 r9 r91 r92 r93 v (nI k9) 5 H.size) (cwV 2 hts gL_areBarnsSo_X9_barn rfl rfl rfl (by decide +kernel) ⟨Nat.le_trans (by decide) hRf, Nat.le_trans (by decide) hRl⟩) (ev_ok tM tS) (e_go (ev_ok tM tS) hE hD hS hA (List.range 128) (gN len9)) hK hP hD (List.range 128) nd128 (gN len9) (va_recv hK hP (ci := 9) (q0 := 0) rfl rfl) rfl hl.1 rfl (Nat.le_of_ble_eq_true rfl) dL_areBarnsSo_317 ⟨Nat.zero_le _, Nat.zero_le _⟩) hK hP hD hS hA (fun zr zu H locs hw hP hD hS => ?_)
                              have hw : zr = (f_X9_barn v (nI k9) 5) := hw
                              subst hw
                              have hP : va_P D vwCl (wX9 z h a b c9 hh hh1 d0 d1 d2 d3 t9 t91 r9 r91 r92 r93 v) H := hP
                              have hD : va_D A (wX9 z h a b c9 hh hh1 d0 d1 d2 d3 t9 t91 r9 r91 r92 r93 v) := hD
                              refine lv_aload_n hx hb dL_areBarnsSo_320 rfl (lv_at hl 12 rfl) ?_
                              refine lv_iload hx hb dL_areBarnsSo_321 (lv_at hl 10 rfl) ?_
                              refine lv_iconst (v := 1) hx hb dL_areBarnsSo_323 (by decide) ?_
                              refine call_W (w1 := fun _ => wX9 z h a b c9 hh hh1 d0 d1 d2 d3 t9 t91 r9 r91 r92 r93 v) len9 (fun _ => len9) (rV (As := [.int (nI k9), .int 1]) (rest := [.int (f_X9_barn v (nI k9) 5)]) ⟨hx, hb, hml, hown, hts⟩ (c_X9_barn l D z tM tS h a b c9 hh hh1 d0 d1 d2 d3 t9 t91 r9 r91 r92 r93 v (nI k9) 1 H.size) (cwV 2 hts gL_areBarnsSo_X9_barn rfl rfl rfl (by decide +kernel) ⟨Nat.le_trans (by decide) hRf, Nat.le_trans (by decide) hRl⟩) (ev_ok tM tS) (e_go (ev_ok tM tS) hE hD hS hA (List.range 128) (gN len9)) hK hP hD (List.range 128) nd128 (gN len9) (va_recv hK hP (ci := 9) (q0 := 0) rfl rfl) rfl hl.1 rfl (Nat.le_of_ble_eq_true rfl) dL_areBarnsSo_324 ⟨Nat.zero_le _, Nat.zero_le _⟩) hK hP hD hS hA (fun zr zu H locs hw hP hD hS => ?_)
                              have hw : zr = (f_X9_barn v (nI k9) 1) := hw
                              subst hw
                              have hP : va_P D vwCl (wX9 z h a b c9 hh hh1 d0 d1 d2 d3 t9 t91 r9 r91 r92 r93 v) H := hP
                              have hD : va_D A (wX9 z h a b c9 hh hh1 d0 d1 d2 d3 t9 t91 r9 r91 r92 r93 v) := hD
                              refine lv_icmp_gt (tgt := 394) hx hb dL_areBarnsSo_327 (by decide) (fun c_51 => ?_) (fun c_51 => ?_)
                              · refine lv_iconst (v := 0) hx hb dL_areBarnsSo_394 (by decide) ?_
                                refine lv_istore_n (lv' := [(3, .int 0), (2, .int (q9.2.1 + (f_X9_barn v (nI k9) 7))), (1, .int (q9.1 + (f_X9_barn v (nI k9) 8))), (12, .int (f_X9_barn v (nI k9) 6)), (11, .int 0), (10, .int q130.2), (9, .int q130.1), (8, .int q36.2.2.2), (7, .int q36.2.2.1), (6, .int q36.2.1), (5, .int q36.1), (4, .int (nI k9)), (0, .ref h)]) hx hb dL_areBarnsSo_395 rfl hl (by decide) rfl (fun ls hl => ?_)
                                refine lv_iinc (v := nI (k9 + 1)) (lv' := [(4, .int (nI (k9 + 1))), (3, .int 0), (2, .int (q9.2.1 + (f_X9_barn v (nI k9) 7))), (1, .int (q9.1 + (f_X9_barn v (nI k9) 8))), (12, .int (f_X9_barn v (nI k9) 6)), (11, .int 0), (10, .int q130.2), (9, .int q130.1), (8, .int q36.2.2.2), (7, .int q36.2.2.1), (6, .int q36.2.1), (5, .int q36.1), (0, .ref h)]) hx hb dL_areBarnsSo_396 hl (k := 11) rfl (nI_add k9 1) (by decide) rfl (fun ls hl => ?_)
                                refine lv_goto (tgt := 9) hx hb dL_areBarnsSo_399 (by decide) ?_
                                exact ih9 (k9 + 1) ((q9.1 + (f_X9_barn v (nI k9) 8)), (q9.2.1 + (f_X9_barn v (nI k9) 7)), 0) (by rw [lp_L_areBarnsSo_9_s, ← hq9]; unfold st_L_areBarnsSo_9; rw [← hq36]; unfold f_L_areBarnsSo_36_x; rw [← hq130]; unfold f_L_areBarnsSo_130_x; rw [if_pos c_21, if_neg c_46, if_pos c_47, if_pos c_48, if_pos c_50, if_pos c_51]; try rfl) (by omega) (by omega) _ _ _ hP hD hS (lv_sub hl [0, 1, 2, 3, 12] rfl)
                              · refine lv_aload_n hx hb dL_areBarnsSo_330 rfl (lv_at hl 12 rfl) ?_
                                refine lv_iload hx hb dL_areBarnsSo_331 (lv_at hl 10 rfl) ?_
                                refine lv_bipush (v := 7) hx hb dL_areBarnsSo_333 (by decide) ?_
                                refine call_W (w1 := fun _ => wX9 z h a b c9 hh hh1 d0 d1 d2 d3 t9 t91 r9 r91 r92 r93 v) len9 (fun _ => len9) (rV (As := [.int (nI k9), .int 7]) (rest := []) ⟨hx, hb, hml, hown, hts⟩ (c_X9_ifPrice l D z tM tS h a b c9 hh hh1 d0 d1 d2 d3 t9 t91 r9 r91 r92 r93 v (nI k9) 7 H.size) (cwV 2 hts gL_areBarnsSo_X9_ifPrice rfl rfl rfl (by decide +kernel) ⟨Nat.le_trans (by decide) hRf, Nat.le_trans (by decide) hRl⟩) (ev_ok tM tS) (e_go (ev_ok tM tS) hE hD hS hA (List.range 128) (gN len9)) hK hP hD (List.range 128) nd128 (gN len9) (va_recv hK hP (ci := 9) (q0 := 0) rfl rfl) rfl hl.1 rfl (Nat.le_of_ble_eq_true rfl) dL_areBarnsSo_335 ⟨Nat.zero_le _, Nat.zero_le _⟩) hK hP hD hS hA (fun zr zu H locs hw hP hD hS => ?_)
                                have hw : zr = (f_X9_ifPrice v (nI k9) 7) := hw
                                subst hw
                                have hP : va_P D vwCl (wX9 z h a b c9 hh hh1 d0 d1 d2 d3 t9 t91 r9 r91 r92 r93 v) H := hP
                                have hD : va_D A (wX9 z h a b c9 hh hh1 d0 d1 d2 d3 t9 t91 r9 r91 r92 r93 v) := hD
                                refine lv_bipush (v := 7) hx hb dL_areBarnsSo_338 (by decide) ?_
                                refine lv_aload_n hx hb dL_areBarnsSo_340 rfl (lv_at hl 12 rfl) ?_
                                refine lv_iload hx hb dL_areBarnsSo_341 (lv_at hl 10 rfl) ?_
                                refine lv_iconst (v := 5) hx hb dL_areBarnsSo_343 (by decide) ?_
                                refine call_W (w1 := fun _ => wX9 z h a b c9 hh hh1 d0 d1 d2 d3 t9 t91 r9 r91 r92 r93 v) len9 (fun _ => len9) (rV (As := [.int (nI k9), .int 5]) (rest := [.int 7, .int (f_X9_ifPrice v (nI k9) 7)]) ⟨hx, hb, hml, hown, hts⟩ (c_X9_barn l D z tM tS h a b c9 hh hh1 d0 d1 d2 d3 t9 t91 r9 r91 r92 r93 v (nI k9) 5 H.size) (cwV 2 hts gL_areBarnsSo_X9_barn rfl rfl rfl (by decide +kernel) ⟨Nat.le_trans (by decide) hRf, Nat.le_trans (by decide) hRl⟩) (ev_ok tM tS) (e_go (ev_ok tM tS) hE hD hS hA (List.range 128) (gN len9)) hK hP hD (List.range 128) nd128 (gN len9) (va_recv hK hP (ci := 9) (q0 := 0) rfl rfl) rfl hl.1 rfl (Nat.le_of_ble_eq_true rfl) dL_areBarnsSo_344 ⟨Nat.zero_le _, Nat.zero_le _⟩) hK hP hD hS hA (fun zr zu H locs hw hP hD hS => ?_)
                                have hw : zr = (f_X9_barn v (nI k9) 5) := hw
                                subst hw
                                have hP : va_P D vwCl (wX9 z h a b c9 hh hh1 d0 d1 d2 d3 t9 t91 r9 r91 r92 r93 v) H := hP
                                have hD : va_D A (wX9 z h a b c9 hh hh1 d0 d1 d2 d3 t9 t91 r9 r91 r92 r93 v) := hD
                                refine lv_imul hx hb dL_areBarnsSo_347 ?_
                                refine lv_icmp_ne (tgt := 394) hx hb dL_areBarnsSo_348 (by decide) (fun c_52 => ?_) (fun c_52 => ?_)
                                · refine lv_iconst (v := 0) hx hb dL_areBarnsSo_394 (by decide) ?_
                                  refine lv_istore_n (lv' := [(3, .int 0), (2, .int (q9.2.1 + (f_X9_barn v (nI k9) 7))), (1, .int (q9.1 + (f_X9_barn v (nI k9) 8))), (12, .int (f_X9_barn v (nI k9) 6)), (11, .int 0), (10, .int q130.2), (9, .int q130.1), (8, .int q36.2.2.2), (7, .int q36.2.2.1), (6, .int q36.2.1), (5, .int q36.1), (4, .int (nI k9)), (0, .ref h)]) hx hb dL_areBarnsSo_395 rfl hl (by decide) rfl (fun ls hl => ?_)
                                  refine lv_iinc (v := nI (k9 + 1)) (lv' := [(4, .int (nI (k9 + 1))), (3, .int 0), (2, .int (q9.2.1 + (f_X9_barn v (nI k9) 7))), (1, .int (q9.1 + (f_X9_barn v (nI k9) 8))), (12, .int (f_X9_barn v (nI k9) 6)), (11, .int 0), (10, .int q130.2), (9, .int q130.1), (8, .int q36.2.2.2), (7, .int q36.2.2.1), (6, .int q36.2.1), (5, .int q36.1), (0, .ref h)]) hx hb dL_areBarnsSo_396 hl (k := 11) rfl (nI_add k9 1) (by decide) rfl (fun ls hl => ?_)
                                  refine lv_goto (tgt := 9) hx hb dL_areBarnsSo_399 (by decide) ?_
                                  exact ih9 (k9 + 1) ((q9.1 + (f_X9_barn v (nI k9) 8)), (q9.2.1 + (f_X9_barn v (nI k9) 7)), 0) (by rw [lp_L_areBarnsSo_9_s, ← hq9]; unfold st_L_areBarnsSo_9; rw [← hq36]; unfold f_L_areBarnsSo_36_x; rw [← hq130]; unfold f_L_areBarnsSo_130_x; rw [if_pos c_21, if_neg c_46, if_pos c_47, if_pos c_48, if_pos c_50, if_neg c_51, if_neg c_52]; try rfl) (by omega) (by omega) _ _ _ hP hD hS (lv_sub hl [0, 1, 2, 3, 12] rfl)
                                · refine lv_iload hx hb dL_areBarnsSo_351 (lv_at hl 2 rfl) ?_
                                  refine lv_iconst (v := 1) hx hb dL_areBarnsSo_353 (by decide) ?_
                                  refine lv_icmp_eq (tgt := 390) hx hb dL_areBarnsSo_354 (by decide) (fun c_53 => ?_) (fun c_53 => ?_)
                                  · refine lv_iconst (v := 1) hx hb dL_areBarnsSo_390 (by decide) ?_
                                    refine lv_goto (tgt := 395) hx hb dL_areBarnsSo_391 (by decide) ?_
                                    refine lv_istore_n (lv' := [(3, .int 1), (2, .int (q9.2.1 + (f_X9_barn v (nI k9) 7))), (1, .int (q9.1 + (f_X9_barn v (nI k9) 8))), (12, .int (f_X9_barn v (nI k9) 6)), (11, .int 0), (10, .int q130.2), (9, .int q130.1), (8, .int q36.2.2.2), (7, .int q36.2.2.1), (6, .int q36.2.1), (5, .int q36.1), (4, .int (nI k9)), (0, .ref h)]) hx hb dL_areBarnsSo_395 rfl hl (by decide) rfl (fun ls hl => ?_)
                                    refine lv_iinc (v := nI (k9 + 1)) (lv' := [(4, .int (nI (k9 + 1))), (3, .int 1), (2, .int (q9.2.1 + (f_X9_barn v (nI k9) 7))), (1, .int (q9.1 + (f_X9_barn v (nI k9) 8))), (12, .int (f_X9_barn v (nI k9) 6)), (11, .int 0), (10, .int q130.2), (9, .int q130.1), (8, .int q36.2.2.2), (7, .int q36.2.2.1), (6, .int q36.2.1), (5, .int q36.1), (0, .ref h)]) hx hb dL_areBarnsSo_396 hl (k := 11) rfl (nI_add k9 1) (by decide) rfl (fun ls hl => ?_)
                                    refine lv_goto (tgt := 9) hx hb dL_areBarnsSo_399 (by decide) ?_
                                    exact ih9 (k9 + 1) ((q9.1 + (f_X9_barn v (nI k9) 8)), (q9.2.1 + (f_X9_barn v (nI k9) 7)), 1) (by rw [lp_L_areBarnsSo_9_s, ← hq9]; unfold st_L_areBarnsSo_9; rw [← hq36]; unfold f_L_areBarnsSo_36_x; rw [← hq130]; unfold f_L_areBarnsSo_130_x; rw [if_pos c_21, if_neg c_46, if_pos c_47, if_pos c_48, if_pos c_50, if_neg c_51, if_pos c_52, if_pos c_53]; try rfl) (by omega) (by omega) _ _ _ hP hD hS (lv_sub hl [0, 1, 2, 3, 12] rfl)
                                  · refine lv_iload hx hb dL_areBarnsSo_357 (lv_at hl 2 rfl) ?_
                                    refine lv_iload hx hb dL_areBarnsSo_359 (lv_at hl 9 rfl) ?_
                                    refine lv_if_ne (tgt := 368) hx hb dL_areBarnsSo_361 (by decide) (fun c_54 => absurd c_21 c_54) (fun c_54 => ?_)
                                    refine lv_iconst (v := 2) hx hb dL_areBarnsSo_364 (by decide) ?_
                                    refine lv_goto (tgt := 387) hx hb dL_areBarnsSo_365 (by decide) ?_
                                    refine lv_icmp_ne (tgt := 394) hx hb dL_areBarnsSo_387 (by decide) (fun c_55 => ?_) (fun c_55 => ?_)
                                    · refine lv_iconst (v := 0) hx hb dL_areBarnsSo_394 (by decide) ?_
                                      refine lv_istore_n (lv' := [(3, .int 0), (2, .int (q9.2.1 + (f_X9_barn v (nI k9) 7))), (1, .int (q9.1 + (f_X9_barn v (nI k9) 8))), (12, .int (f_X9_barn v (nI k9) 6)), (11, .int 0), (10, .int q130.2), (9, .int q130.1), (8, .int q36.2.2.2), (7, .int q36.2.2.1), (6, .int q36.2.1), (5, .int q36.1), (4, .int (nI k9)), (0, .ref h)]) hx hb dL_areBarnsSo_395 rfl hl (by decide) rfl (fun ls hl => ?_)
                                      refine lv_iinc (v := nI (k9 + 1)) (lv' := [(4, .int (nI (k9 + 1))), (3, .int 0), (2, .int (q9.2.1 + (f_X9_barn v (nI k9) 7))), (1, .int (q9.1 + (f_X9_barn v (nI k9) 8))), (12, .int (f_X9_barn v (nI k9) 6)), (11, .int 0), (10, .int q130.2), (9, .int q130.1), (8, .int q36.2.2.2), (7, .int q36.2.2.1), (6, .int q36.2.1), (5, .int q36.1), (0, .ref h)]) hx hb dL_areBarnsSo_396 hl (k := 11) rfl (nI_add k9 1) (by decide) rfl (fun ls hl => ?_)
                                      refine lv_goto (tgt := 9) hx hb dL_areBarnsSo_399 (by decide) ?_
                                      exact ih9 (k9 + 1) ((q9.1 + (f_X9_barn v (nI k9) 8)), (q9.2.1 + (f_X9_barn v (nI k9) 7)), 0) (by rw [lp_L_areBarnsSo_9_s, ← hq9]; unfold st_L_areBarnsSo_9; rw [← hq36]; unfold f_L_areBarnsSo_36_x; rw [← hq130]; unfold f_L_areBarnsSo_130_x; rw [if_pos c_21, if_neg c_46, if_pos c_47, if_pos c_48, if_pos c_50, if_neg c_51, if_pos c_52, if_neg c_53, if_neg c_55]; try rfl) (by omega) (by omega) _ _ _ hP hD hS (lv_sub hl [0, 1, 2, 3, 12] rfl)
                                    · refine lv_iconst (v := 1) hx hb dL_areBarnsSo_390 (by decide) ?_
                                      refine lv_goto (tgt := 395) hx hb dL_areBarnsSo_391 (by decide) ?_
                                      refine lv_istore_n (lv' := [(3, .int 1), (2, .int (q9.2.1 + (f_X9_barn v (nI k9) 7))), (1, .int (q9.1 + (f_X9_barn v (nI k9) 8))), (12, .int (f_X9_barn v (nI k9) 6)), (11, .int 0), (10, .int q130.2), (9, .int q130.1), (8, .int q36.2.2.2), (7, .int q36.2.2.1), (6, .int q36.2.1), (5, .int q36.1), (4, .int (nI k9)), (0, .ref h)]) hx hb dL_areBarnsSo_395 rfl hl (by decide) rfl (fun ls hl => ?_)
                                      refine lv_iinc (v := nI (k9 + 1)) (lv' := [(4, .int (nI (k9 + 1))), (3, .int 1), (2, .int (q9.2.1 + (f_X9_barn v (nI k9) 7))), (1, .int (q9.1 + (f_X9_barn v (nI k9) 8))), (12, .int (f_X9_barn v (nI k9) 6)), (11, .int 0), (10, .int q130.2), (9, .int q130.1), (8, .int q36.2.2.2), (7, .int q36.2.2.1), (6, .int q36.2.1), (5, .int q36.1), (0, .ref h)]) hx hb dL_areBarnsSo_396 hl (k := 11) rfl (nI_add k9 1) (by decide) rfl (fun ls hl => ?_)
                                      refine lv_goto (tgt := 9) hx hb dL_areBarnsSo_399 (by decide) ?_
                                      exact ih9 (k9 + 1) ((q9.1 + (f_X9_barn v (nI k9) 8)), (q9.2.1 + (f_X9_barn v (nI k9) 7)), 1) (by rw [lp_L_areBarnsSo_9_s, ← hq9]; unfold st_L_areBarnsSo_9; rw [← hq36]; unfold f_L_areBarnsSo_36_x; rw [← hq130]; unfold f_L_areBarnsSo_130_x; rw [if_pos c_21, if_neg c_46, if_pos c_47, if_pos c_48, if_pos c_50, if_neg c_51, if_pos c_52, if_neg c_53, if_pos c_55]; try rfl) (by omega) (by omega) _ _ _ hP hD hS (lv_sub hl [0, 1, 2, 3, 12] rfl)
              exact L130 (2 + 1) 0 (0, 0) (lp_L_areBarnsSo_130_0 v k9 q9 q36 (0, 0)).symm (Nat.zero_le _) (by omega) _ _ _ hP hD hS (lv_sub hl [0, 1, 2, 3, 4, 5, 6, 7, 8, 9, 10, 11] rfl)
        exact L36 (10 + 1) 0 (0, 0, 0, 0) (lp_L_areBarnsSo_36_0 v k9 q9 (0, 0, 0, 0)).symm (Nat.zero_le _) (by omega) _ _ _ hP hD hS (lv_sub hl [0, 1, 2, 3, 4, 5, 6, 7, 8, 9, 10, 11] rfl)
      · obtain rfl : 5 = k9 := by omega
        refine lv_icmp_ge (tgt := 402) hx hb dL_areBarnsSo_12 (by decide) (fun c_2 => ?_) (fun c_2 => absurd (nI_le (a := 5) (b := 5) (by omega) (by omega)) c_2)
        have hP : va_P D vwCl (wX9 z h a b c9 hh hh1 d0 d1 d2 d3 t9 t91 r9 r91 r92 r93 v) H := hP
        have hD : va_D A (wX9 z h a b c9 hh hh1 d0 d1 d2 d3 t9 t91 r9 r91 r92 r93 v) := hD
        refine lv_iload_n hx hb dL_areBarnsSo_402 rfl (lv_at hl 1 rfl) ?_
        refine lv_if_eq (tgt := 459) hx hb dL_areBarnsSo_403 (by decide) (fun c_56 => ?_) (fun c_56 => ?_)
        · refine lv_iconst (v := 0) hx hb dL_areBarnsSo_459 (by decide) ?_
          subst hQ
          exact ret_z () hx hb hr rfl hK hP hD hS rfl ⟨(by unfold f_L_areBarnsSo; rw [← hq9]; unfold f_L_areBarnsSo_9_x; rw [if_pos c_56]; try rfl), (Or.inl rfl)⟩ dL_areBarnsSo_460 hlocks
        · refine lv_iload_n hx hb dL_areBarnsSo_406 rfl (lv_at hl 3 rfl) ?_
          refine lv_aload_n hx hb dL_areBarnsSo_407 rfl (lv_at hl 4 rfl) ?_
          refine lv_iconst (v := 4) hx hb dL_areBarnsSo_408 (by decide) ?_
          refine call_W (w1 := fun _ => wX9 z h a b c9 hh hh1 d0 d1 d2 d3 t9 t91 r9 r91 r92 r93 v) len9 (fun _ => len9) (rV (As := [.int 4]) (rest := [.int q9.1]) ⟨hx, hb, hml, hown, hts⟩ (c_X9_count l D z tM tS h a b c9 hh hh1 d0 d1 d2 d3 t9 t91 r9 r91 r92 r93 v 4 H.size) (cwV 1 hts gL_areBarnsSo_X9_count rfl rfl rfl (by decide +kernel) ⟨Nat.le_trans (by decide) hRf, Nat.le_trans (by decide) hRl⟩) (ev_ok tM tS) (e_go (ev_ok tM tS) hE hD hS hA (List.range 128) (gN len9)) hK hP hD (List.range 128) nd128 (gN len9) (va_recv hK hP (ci := 9) (q0 := 0) rfl rfl) rfl hl.1 rfl (Nat.le_of_ble_eq_true rfl) dL_areBarnsSo_409 ⟨Nat.zero_le _, Nat.zero_le _⟩) hK hP hD hS hA (fun zr zu H locs hw hP hD hS => ?_)
          have hw : zr = (f_X9_count v 4) := hw
          subst hw
          have hP : va_P D vwCl (wX9 z h a b c9 hh hh1 d0 d1 d2 d3 t9 t91 r9 r91 r92 r93 v) H := hP
          have hD : va_D A (wX9 z h a b c9 hh hh1 d0 d1 d2 d3 t9 t91 r9 r91 r92 r93 v) := hD
          refine lv_icmp_ne (tgt := 459) hx hb dL_areBarnsSo_412 (by decide) (fun c_57 => ?_) (fun c_57 => ?_)
          · refine lv_iconst (v := 0) hx hb dL_areBarnsSo_459 (by decide) ?_
            subst hQ
            exact ret_z () hx hb hr rfl hK hP hD hS rfl ⟨(by unfold f_L_areBarnsSo; rw [← hq9]; unfold f_L_areBarnsSo_9_x; rw [if_neg c_56, if_neg c_57]; try rfl), (Or.inl rfl)⟩ dL_areBarnsSo_460 hlocks
          · refine lv_iload_n hx hb dL_areBarnsSo_415 rfl (lv_at hl 2 rfl) ?_
            refine lv_aload_n hx hb dL_areBarnsSo_416 rfl (lv_at hl 4 rfl) ?_
            refine lv_bipush (v := 9) hx hb dL_areBarnsSo_417 (by decide) ?_
            refine call_W (w1 := fun _ => wX9 z h a b c9 hh hh1 d0 d1 d2 d3 t9 t91 r9 r91 r92 r93 v) len9 (fun _ => len9) (rV (As := [.int 9]) (rest := [.int q9.2.1]) ⟨hx, hb, hml, hown, hts⟩ (c_X9_count l D z tM tS h a b c9 hh hh1 d0 d1 d2 d3 t9 t91 r9 r91 r92 r93 v 9 H.size) (cwV 1 hts gL_areBarnsSo_X9_count rfl rfl rfl (by decide +kernel) ⟨Nat.le_trans (by decide) hRf, Nat.le_trans (by decide) hRl⟩) (ev_ok tM tS) (e_go (ev_ok tM tS) hE hD hS hA (List.range 128) (gN len9)) hK hP hD (List.range 128) nd128 (gN len9) (va_recv hK hP (ci := 9) (q0 := 0) rfl rfl) rfl hl.1 rfl (Nat.le_of_ble_eq_true rfl) dL_areBarnsSo_419 ⟨Nat.zero_le _, Nat.zero_le _⟩) hK hP hD hS hA (fun zr zu H locs hw hP hD hS => ?_)
            have hw : zr = (f_X9_count v 9) := hw
            subst hw
            have hP : va_P D vwCl (wX9 z h a b c9 hh hh1 d0 d1 d2 d3 t9 t91 r9 r91 r92 r93 v) H := hP
            have hD : va_D A (wX9 z h a b c9 hh hh1 d0 d1 d2 d3 t9 t91 r9 r91 r92 r93 v) := hD
            refine lv_icmp_ne (tgt := 459) hx hb dL_areBarnsSo_422 (by decide) (fun c_58 => ?_) (fun c_58 => ?_)
            · refine lv_iconst (v := 0) hx hb dL_areBarnsSo_459 (by decide) ?_
              subst hQ
              exact ret_z () hx hb hr rfl hK hP hD hS rfl ⟨(by unfold f_L_areBarnsSo; rw [← hq9]; unfold f_L_areBarnsSo_9_x; rw [if_neg c_56, if_pos c_57, if_neg c_58]; try rfl), (Or.inl rfl)⟩ dL_areBarnsSo_460 hlocks
            · refine lv_aload_n hx hb dL_areBarnsSo_425 rfl (lv_at hl 4 rfl) ?_
              refine lv_bipush (v := 8) hx hb dL_areBarnsSo_426 (by decide) ?_
              refine call_W (w1 := fun _ => wX9 z h a b c9 hh hh1 d0 d1 d2 d3 t9 t91 r9 r91 r92 r93 v) len9 (fun _ => len9) (rV (As := [.int 8]) (rest := []) ⟨hx, hb, hml, hown, hts⟩ (c_X9_count l D z tM tS h a b c9 hh hh1 d0 d1 d2 d3 t9 t91 r9 r91 r92 r93 v 8 H.size) (cwV 1 hts gL_areBarnsSo_X9_count rfl rfl rfl (by decide +kernel) ⟨Nat.le_trans (by decide) hRf, Nat.le_trans (by decide) hRl⟩) (ev_ok tM tS) (e_go (ev_ok tM tS) hE hD hS hA (List.range 128) (gN len9)) hK hP hD (List.range 128) nd128 (gN len9) (va_recv hK hP (ci := 9) (q0 := 0) rfl rfl) rfl hl.1 rfl (Nat.le_of_ble_eq_true rfl) dL_areBarnsSo_428 ⟨Nat.zero_le _, Nat.zero_le _⟩) hK hP hD hS hA (fun zr zu H locs hw hP hD hS => ?_)
              have hw : zr = (f_X9_count v 8) := hw
              subst hw
              have hP : va_P D vwCl (wX9 z h a b c9 hh hh1 d0 d1 d2 d3 t9 t91 r9 r91 r92 r93 v) H := hP
              have hD : va_D A (wX9 z h a b c9 hh hh1 d0 d1 d2 d3 t9 t91 r9 r91 r92 r93 v) := hD
              refine lv_iload_n hx hb dL_areBarnsSo_431 rfl (lv_at hl 3 rfl) ?_
              refine lv_aload_n hx hb dL_areBarnsSo_432 rfl (lv_at hl 4 rfl) ?_
              refine lv_iconst (v := 5) hx hb dL_areBarnsSo_433 (by decide) ?_
              refine call_W (w1 := fun _ => wX9 z h a b c9 hh hh1 d0 d1 d2 d3 t9 t91 r9 r91 r92 r93 v) len9 (fun _ => len9) (rV (As := [.int 5]) (rest := [.int q9.1, .int (f_X9_count v 8)]) ⟨hx, hb, hml, hown, hts⟩ (c_X9_count l D z tM tS h a b c9 hh hh1 d0 d1 d2 d3 t9 t91 r9 r91 r92 r93 v 5 H.size) (cwV 1 hts gL_areBarnsSo_X9_count rfl rfl rfl (by decide +kernel) ⟨Nat.le_trans (by decide) hRf, Nat.le_trans (by decide) hRl⟩) (ev_ok tM tS) (e_go (ev_ok tM tS) hE hD hS hA (List.range 128) (gN len9)) hK hP hD (List.range 128) nd128 (gN len9) (va_recv hK hP (ci := 9) (q0 := 0) rfl rfl) rfl hl.1 rfl (Nat.le_of_ble_eq_true rfl) dL_areBarnsSo_434 ⟨Nat.zero_le _, Nat.zero_le _⟩) hK hP hD hS hA (fun zr zu H locs hw hP hD hS => ?_)
              have hw : zr = (f_X9_count v 5) := hw
              subst hw
              have hP : va_P D vwCl (wX9 z h a b c9 hh hh1 d0 d1 d2 d3 t9 t91 r9 r91 r92 r93 v) H := hP
              have hD : va_D A (wX9 z h a b c9 hh hh1 d0 d1 d2 d3 t9 t91 r9 r91 r92 r93 v) := hD
              refine lv_isub hx hb dL_areBarnsSo_437 ?_
              refine lv_aload_n hx hb dL_areBarnsSo_438 rfl (lv_at hl 4 rfl) ?_
              refine lv_bipush (v := 6) hx hb dL_areBarnsSo_439 (by decide) ?_
              refine call_W (w1 := fun _ => wX9 z h a b c9 hh hh1 d0 d1 d2 d3 t9 t91 r9 r91 r92 r93 v) len9 (fun _ => len9) (rV (As := [.int 6]) (rest := [.int (q9.1 - (f_X9_count v 5)), .int (f_X9_count v 8)]) ⟨hx, hb, hml, hown, hts⟩ (c_X9_count l D z tM tS h a b c9 hh hh1 d0 d1 d2 d3 t9 t91 r9 r91 r92 r93 v 6 H.size) (cwV 1 hts gL_areBarnsSo_X9_count rfl rfl rfl (by decide +kernel) ⟨Nat.le_trans (by decide) hRf, Nat.le_trans (by decide) hRl⟩) (ev_ok tM tS) (e_go (ev_ok tM tS) hE hD hS hA (List.range 128) (gN len9)) hK hP hD (List.range 128) nd128 (gN len9) (va_recv hK hP (ci := 9) (q0 := 0) rfl rfl) rfl hl.1 rfl (Nat.le_of_ble_eq_true rfl) dL_areBarnsSo_441 ⟨Nat.zero_le _, Nat.zero_le _⟩) hK hP hD hS hA (fun zr zu H locs hw hP hD hS => ?_)
              have hw : zr = (f_X9_count v 6) := hw
              subst hw
              have hP : va_P D vwCl (wX9 z h a b c9 hh hh1 d0 d1 d2 d3 t9 t91 r9 r91 r92 r93 v) H := hP
              have hD : va_D A (wX9 z h a b c9 hh hh1 d0 d1 d2 d3 t9 t91 r9 r91 r92 r93 v) := hD
              refine lv_isub hx hb dL_areBarnsSo_444 ?_
              refine lv_aload_n hx hb dL_areBarnsSo_445 rfl (lv_at hl 4 rfl) ?_
              refine lv_bipush (v := 7) hx hb dL_areBarnsSo_446 (by decide) ?_
              refine call_W (w1 := fun _ => wX9 z h a b c9 hh hh1 d0 d1 d2 d3 t9 t91 r9 r91 r92 r93 v) len9 (fun _ => len9) (rV (As := [.int 7]) (rest := [.int ((q9.1 - (f_X9_count v 5)) - (f_X9_count v 6)), .int (f_X9_count v 8)]) ⟨hx, hb, hml, hown, hts⟩ (c_X9_count l D z tM tS h a b c9 hh hh1 d0 d1 d2 d3 t9 t91 r9 r91 r92 r93 v 7 H.size) (cwV 1 hts gL_areBarnsSo_X9_count rfl rfl rfl (by decide +kernel) ⟨Nat.le_trans (by decide) hRf, Nat.le_trans (by decide) hRl⟩) (ev_ok tM tS) (e_go (ev_ok tM tS) hE hD hS hA (List.range 128) (gN len9)) hK hP hD (List.range 128) nd128 (gN len9) (va_recv hK hP (ci := 9) (q0 := 0) rfl rfl) rfl hl.1 rfl (Nat.le_of_ble_eq_true rfl) dL_areBarnsSo_448 ⟨Nat.zero_le _, Nat.zero_le _⟩) hK hP hD hS hA (fun zr zu H locs hw hP hD hS => ?_)
              have hw : zr = (f_X9_count v 7) := hw
              subst hw
              have hP : va_P D vwCl (wX9 z h a b c9 hh hh1 d0 d1 d2 d3 t9 t91 r9 r91 r92 r93 v) H := hP
              have hD : va_D A (wX9 z h a b c9 hh hh1 d0 d1 d2 d3 t9 t91 r9 r91 r92 r93 v) := hD
              refine lv_isub hx hb dL_areBarnsSo_451 ?_
              refine lv_icmp_ne (tgt := 459) hx hb dL_areBarnsSo_452 (by decide) (fun c_59 => ?_) (fun c_59 => ?_)
              · refine lv_iconst (v := 0) hx hb dL_areBarnsSo_459 (by decide) ?_
                subst hQ
                exact ret_z () hx hb hr rfl hK hP hD hS rfl ⟨(by unfold f_L_areBarnsSo; rw [← hq9]; unfold f_L_areBarnsSo_9_x; rw [if_neg c_56, if_pos c_57, if_pos c_58, if_neg c_59]; try rfl), (Or.inl rfl)⟩ dL_areBarnsSo_460 hlocks
              · refine lv_iconst (v := 1) hx hb dL_areBarnsSo_455 (by decide) ?_
                refine lv_goto (tgt := 460) hx hb dL_areBarnsSo_456 (by decide) ?_
                subst hQ
                exact ret_z () hx hb hr rfl hK hP hD hS rfl ⟨(by unfold f_L_areBarnsSo; rw [← hq9]; unfold f_L_areBarnsSo_9_x; rw [if_neg c_56, if_pos c_57, if_pos c_58, if_pos c_59]; try rfl), (Or.inr rfl)⟩ dL_areBarnsSo_460 hlocks
  exact L9 (5 + 1) 0 (0, 0, 1) (lp_L_areBarnsSo_9_0 v (0, 0, 1)).symm (Nat.zero_le _) (by omega) _ _ _ hP hD hS (lv_sub hl [0, 1, 2, 3, 4] rfl)

