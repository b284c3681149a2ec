/-! the law's cases -/
section LW
variable {p : Program} {l : Launch} {e : Env} {s : State} {m : MethodId} {below : List Frame} {meth : Method} {c : Code} {Q : State → Prop} {b L : Nat} {xs : Nat → Int32} {D : va_G} {z : ClassId × ClassId × ClassId} {tM tS : Nat} {h : Nat} {a1 a2 a3 : Nat → Nat} {hh hh1 : Nat} {d0 d1 d2 d3 : Nat → Nat} {t9 t91 r9 r91 r92 r93 : Nat} {g g1 g2 g3 g4 g5 : Nat} {N i : Nat} {x3 : Int32} {v : PV} {w : MV} {H : Heap} {locs : List Loc} {ls : Array Slot}
set_option maxRecDepth 100000 in
set_option maxHeartbeats 2000000 in
theorem law_stopped (C : LX p s m meth c b L xs D z tM tS) (ex3 : x3 = nI i) (hi : i + 3 ≤ L) (hL : L ≤ 1536) (R : REL N v w) (hN : N + 40 < 2 ^ 30) (hP : va_P D vwCl (wX9 z h a1 a2 a3 hh hh1 d0 d1 d2 d3 t9 t91 r9 r91 r92 r93 v ++ wX10 z g g1 g2 g3 g4 g5 w) H) (hD : va_D (fun q : Nat => s.heap.size ≤ q) (wX9 z h a1 a2 a3 hh hh1 d0 d1 d2 d3 t9 t91 r9 r91 r92 r93 v ++ wX10 z g g1 g2 g3 g4 g5 w)) (hS : va_S (fun q : Nat => s.heap.size ≤ q) s.heap H locs) (hl : lv_has ls 4 [(3, .int x3), (2, .ref g), (1, .ref h), (0, .ref b)])
    (kk : ∀ (v1 : PV) (w1 : MV) (H1 : Heap) (locs1 : List Loc), REL (N + 41) v1 w1 → va_P D vwCl (wX9 z h a1 a2 a3 hh hh1 d0 d1 d2 d3 t9 t91 r9 r91 r92 r93 v1 ++ wX10 z g g1 g2 g3 g4 g5 w1) H1 → va_D (fun q : Nat => s.heap.size ≤ q) (wX9 z h a1 a2 a3 hh hh1 d0 d1 d2 d3 t9 t91 r9 r91 r92 r93 v1 ++ wX10 z g g1 g2 g3 g4 g5 w1) → va_S (fun q : Nat => s.heap.size ≤ q) s.heap H1 locs1 → W p l e room_1 s m #[Value.ref b] below meth c H1 locs1 134 1958 Q (F0 m 686 ls [])) : W p l e room_1 s m #[Value.ref b] below meth c H locs 134 1958 Q (F0 m 423 ls []) := by
  obtain ⟨hx, hb, hr, hml, hown, hts, hX, hbl, hK, hE⟩ := C
  have hA : ∀ q : Nat, s.heap.size ≤ q → (fun q : Nat => s.heap.size ≤ q) q := fun _ h => h
  have hbA : ¬ (fun q : Nat => s.heap.size ≤ q) b := Nat.not_le.mpr hbl
  have h1 : vp_in (x3 + 1) L := by rw [show x3 + 1 = nI (i + 1) from nadd ex3 (nlit 1)]; exact vp_in_nI (by omega) (by omega)
  have h2 : vp_in (x3 + 2) L := by rw [show x3 + 2 = nI (i + 2) from nadd ex3 (nlit 2)]; exact vp_in_nI (by omega) (by omega)
  refine lv_aload_n hx hb dL_law_423 rfl (lv_at hl 2 rfl) ?_
  refine lv_aload_n hx hb dL_law_424 rfl (lv_at hl 3 rfl) ?_
  refine lv_iload_n hx hb dL_law_425 rfl (lv_at hl 0 rfl) ?_
  refine lv_iconst (v := 1) hx hb dL_law_426 (by decide) ?_
  refine lv_iadd hx hb dL_law_427 ?_
  refine va_sld hx hb hX hbl hbA hS h1 dL_law_428 ?_
  refine call_X (w1 := fun zu => wX9 z h a1 a2 a3 hh hh1 d0 d1 d2 d3 t9 t91 r9 r91 r92 r93 v) len9 len10 (fun _ => len9) (rV (As := [.int (xs (x3 + 1).toNatClampNeg)]) (rest := []) ⟨hx, hb, hml, hown, hts⟩ (c_X9_stopped l D z tM tS h a1 a2 a3 hh hh1 d0 d1 d2 d3 t9 t91 r9 r91 r92 r93 v (xs (x3 + 1).toNatClampNeg)  H.size) (cwV 1 hts gL_law_X9_stopped rfl rfl rfl (by decide +kernel) ⟨Nat.le_of_ble_eq_true rfl, Nat.le_of_ble_eq_true rfl⟩) (ev_ok tM tS) (e_go (ev_ok tM tS) hE hD hS hA (List.range 128) (gA1 len9)) hK hP hD (List.range 128) nd128 (gA1 len9) (va_recv hK hP (ci := 9) (q0 := 0) rfl rfl) rfl hl.1 rfl (Nat.le_of_ble_eq_true rfl) dL_law_429 ⟨Nat.le_of_ble_eq_true rfl, Nat.le_of_ble_eq_true rfl⟩) hK hP hD hS hA (fun r1 u1 H locs hw hP hD hS => ?_)
  have hw : r1 = f_X9_stopped v (xs (x3 + 1).toNatClampNeg) := hw
  have hP : va_P D vwCl (wX9 z h a1 a2 a3 hh hh1 d0 d1 d2 d3 t9 t91 r9 r91 r92 r93 v ++ wX10 z g g1 g2 g3 g4 g5 w) H := hP
  have hD : va_D (fun q : Nat => s.heap.size ≤ q) (wX9 z h a1 a2 a3 hh hh1 d0 d1 d2 d3 t9 t91 r9 r91 r92 r93 v ++ wX10 z g g1 g2 g3 g4 g5 w) := hD
  refine lv_aload_n hx hb dL_law_432 rfl (lv_at hl 1 rfl) ?_
  refine lv_aload_n hx hb dL_law_433 rfl (lv_at hl 3 rfl) ?_
  refine lv_iload_n hx hb dL_law_434 rfl (lv_at hl 0 rfl) ?_
  refine lv_iconst (v := 1) hx hb dL_law_435 (by decide) ?_
  refine lv_iadd hx hb dL_law_436 ?_
  refine va_sld hx hb hX hbl hbA hS h1 dL_law_437 ?_
  refine call_M (wa := wX9 z h a1 a2 a3 hh hh1 d0 d1 d2 d3 t9 t91 r9 r91 r92 r93 v) (wb := wX10 z g g1 g2 g3 g4 g5 w) len9 len10 (fun _ => len10) (rV (As := [.int (xs (x3 + 1).toNatClampNeg)]) (rest := [.int r1]) ⟨hx, hb, hml, hown, hts⟩ (c_X10_stopped l D z g g1 g2 g3 g4 g5 w (xs (x3 + 1).toNatClampNeg)  H.size) (cwV 1 hts gL_law_X10_stopped rfl rfl rfl (by decide +kernel) ⟨Nat.le_of_ble_eq_true rfl, Nat.le_of_ble_eq_true rfl⟩) e0_ok e_0 hK hP hD (List.range' 128 6) nd6 (gB1 len9 len10) (va_recv hK hP (ci := 10) (q0 := 128) rfl rfl) rfl hl.1 rfl (Nat.le_of_ble_eq_true rfl) dL_law_438 ⟨Nat.le_of_ble_eq_true rfl, Nat.le_of_ble_eq_true rfl⟩) hK hP hD hS hA (fun r2 u2 H locs hq hP hD hS => ?_)
  have hq : r2 = f_X10_stopped w (xs (x3 + 1).toNatClampNeg) := hq
  have hP : va_P D vwCl (wX9 z h a1 a2 a3 hh hh1 d0 d1 d2 d3 t9 t91 r9 r91 r92 r93 v ++ wX10 z g g1 g2 g3 g4 g5 w) H := hP
  have hD : va_D (fun q : Nat => s.heap.size ≤ q) (wX9 z h a1 a2 a3 hh hh1 d0 d1 d2 d3 t9 t91 r9 r91 r92 r93 v ++ wX10 z g g1 g2 g3 g4 g5 w) := hD
  have E := stopped_m R (xs (x3 + 1).toNatClampNeg)
  refine lv_icmp_eq (tgt := 686) hx hb dL_law_441 (by decide) (fun _ => ?_) (fun c0 => absurd (hw.trans (E.trans hq.symm)) c0)
  exact kk v w _ _ (rel_mono R (by omega)) hP hD hS
set_option maxRecDepth 100000 in
set_option maxHeartbeats 2000000 in
theorem law_undo (C : LX p s m meth c b L xs D z tM tS) (ex3 : x3 = nI i) (hi : i + 3 ≤ L) (hL : L ≤ 1536) (R : REL N v w) (hN : N + 40 < 2 ^ 30) (hP : va_P D vwCl (wX9 z h a1 a2 a3 hh hh1 d0 d1 d2 d3 t9 t91 r9 r91 r92 r93 v ++ wX10 z g g1 g2 g3 g4 g5 w) H) (hD : va_D (fun q : Nat => s.heap.size ≤ q) (wX9 z h a1 a2 a3 hh hh1 d0 d1 d2 d3 t9 t91 r9 r91 r92 r93 v ++ wX10 z g g1 g2 g3 g4 g5 w)) (hS : va_S (fun q : Nat => s.heap.size ≤ q) s.heap H locs) (hl : lv_has ls 4 [(3, .int x3), (2, .ref g), (1, .ref h), (0, .ref b)])
    (kk : ∀ (v1 : PV) (w1 : MV) (H1 : Heap) (locs1 : List Loc), REL (N + 41) v1 w1 → va_P D vwCl (wX9 z h a1 a2 a3 hh hh1 d0 d1 d2 d3 t9 t91 r9 r91 r92 r93 v1 ++ wX10 z g g1 g2 g3 g4 g5 w1) H1 → va_D (fun q : Nat => s.heap.size ≤ q) (wX9 z h a1 a2 a3 hh hh1 d0 d1 d2 d3 t9 t91 r9 r91 r92 r93 v1 ++ wX10 z g g1 g2 g3 g4 g5 w1) → va_S (fun q : Nat => s.heap.size ≤ q) s.heap H1 locs1 → W p l e room_1 s m #[Value.ref b] below meth c H1 locs1 134 1958 Q (F0 m 686 ls [])) : W p l e room_1 s m #[Value.ref b] below meth c H locs 134 1958 Q (F0 m 446 ls []) := by
  obtain ⟨hx, hb, hr, hml, hown, hts, hX, hbl, hK, hE⟩ := C
  have hA : ∀ q : Nat, s.heap.size ≤ q → (fun q : Nat => s.heap.size ≤ q) q := fun _ h => h
  have hbA : ¬ (fun q : Nat => s.heap.size ≤ q) b := Nat.not_le.mpr hbl
  have h1 : vp_in (x3 + 1) L := by rw [show x3 + 1 = nI (i + 1) from nadd ex3 (nlit 1)]; exact vp_in_nI (by omega) (by omega)
  have h2 : vp_in (x3 + 2) L := by rw [show x3 + 2 = nI (i + 2) from nadd ex3 (nlit 2)]; exact vp_in_nI (by omega) (by omega)
  refine lv_aload_n hx hb dL_law_446 rfl (lv_at hl 2 rfl) ?_
  refine call_X (w1 := fun zu => wX9 z h a1 a2 a3 hh hh1 d0 d1 d2 d3 t9 t91 r9 r91 r92 r93 zu) len9 len10 (fun _ => len9) (rV (As := []) (rest := []) ⟨hx, hb, hml, hown, hts⟩ (c_X9_undo l D z tM tS h a1 a2 a3 hh hh1 d0 d1 d2 d3 t9 t91 r9 r91 r92 r93 v  (rl_n R).1 (rl_n R).2 H.size) (cwV 0 hts gL_law_X9_undo rfl rfl rfl (by decide +kernel) ⟨Nat.le_of_ble_eq_true rfl, Nat.le_of_ble_eq_true rfl⟩) (ev_ok tM tS) (e_go (ev_ok tM tS) hE hD hS hA (List.range 128) (gA1 len9)) hK hP hD (List.range 128) nd128 (gA1 len9) (va_recv hK hP (ci := 9) (q0 := 0) rfl rfl) rfl hl.1 rfl (Nat.le_of_ble_eq_true rfl) dL_law_447 ⟨Nat.le_of_ble_eq_true rfl, Nat.le_of_ble_eq_true rfl⟩) hK hP hD hS hA (fun r1 u1 H locs hw hP hD hS => ?_)
  have hw : (r1, u1) = f_X9_undo v := hw
  have hP : va_P D vwCl (wX9 z h a1 a2 a3 hh hh1 d0 d1 d2 d3 t9 t91 r9 r91 r92 r93 u1 ++ wX10 z g g1 g2 g3 g4 g5 w) H := hP
  have hD : va_D (fun q : Nat => s.heap.size ≤ q) (wX9 z h a1 a2 a3 hh hh1 d0 d1 d2 d3 t9 t91 r9 r91 r92 r93 u1 ++ wX10 z g g1 g2 g3 g4 g5 w) := hD
  refine lv_aload_n hx hb dL_law_450 rfl (lv_at hl 1 rfl) ?_
  refine call_M (wa := wX9 z h a1 a2 a3 hh hh1 d0 d1 d2 d3 t9 t91 r9 r91 r92 r93 u1) (wb := wX10 z g g1 g2 g3 g4 g5 w) len9 len10 (fun _ => len10) (rV (As := []) (rest := [.int r1]) ⟨hx, hb, hml, hown, hts⟩ (c_X10_undo l D z g g1 g2 g3 g4 g5 w  (rm_k R).1 (rm_k R).2 H.size) (cwV 0 hts gL_law_X10_undo rfl rfl rfl (by decide +kernel) ⟨Nat.le_of_ble_eq_true rfl, Nat.le_of_ble_eq_true rfl⟩) e0_ok e_0 hK hP hD (List.range' 128 6) nd6 (gB1 len9 len10) (va_recv hK hP (ci := 10) (q0 := 128) rfl rfl) rfl hl.1 rfl (Nat.le_of_ble_eq_true rfl) dL_law_451 ⟨Nat.le_of_ble_eq_true rfl, Nat.le_of_ble_eq_true rfl⟩) hK hP hD hS hA (fun r2 u2 H locs hq hP hD hS => ?_)
  have hq : (r2, u2) = f_X10_undo w := hq
  have hP : va_P D vwCl (wX9 z h a1 a2 a3 hh hh1 d0 d1 d2 d3 t9 t91 r9 r91 r92 r93 u1 ++ wX10 z g g1 g2 g3 g4 g5 (u2.1, w.2.1, w.2.2.1, u2.2, w.2.2.2.2)) H := hP
  have hD : va_D (fun q : Nat => s.heap.size ≤ q) (wX9 z h a1 a2 a3 hh hh1 d0 d1 d2 d3 t9 t91 r9 r91 r92 r93 u1 ++ wX10 z g g1 g2 g3 g4 g5 (u2.1, w.2.1, w.2.2.1, u2.2, w.2.2.2.2)) := hD
  have E := undo_m R
  refine lv_icmp_eq (tgt := 686) hx hb dL_law_454 (by decide) (fun _ => ?_) (fun c0 => absurd ((pe hw).1.trans (E.1.trans (pe hq).1.symm)) c0)
  exact kk u1 (u2.1, w.2.1, w.2.2.1, u2.2, w.2.2.2.2) _ _ (by rw [(pe hw).2, (pe hq).2]; exact rel_mono E.2 (by omega)) hP hD hS
set_option maxRecDepth 100000 in
set_option maxHeartbeats 2000000 in
theorem law_keep (C : LX p s m meth c b L xs D z tM tS) (ex3 : x3 = nI i) (hi : i + 3 ≤ L) (hL : L ≤ 1536) (R : REL N v w) (hN : N + 40 < 2 ^ 30) (hP : va_P D vwCl (wX9 z h a1 a2 a3 hh hh1 d0 d1 d2 d3 t9 t91 r9 r91 r92 r93 v ++ wX10 z g g1 g2 g3 g4 g5 w) H) (hD : va_D (fun q : Nat => s.heap.size ≤ q) (wX9 z h a1 a2 a3 hh hh1 d0 d1 d2 d3 t9 t91 r9 r91 r92 r93 v ++ wX10 z g g1 g2 g3 g4 g5 w)) (hS : va_S (fun q : Nat => s.heap.size ≤ q) s.heap H locs) (hl : lv_has ls 4 [(3, .int x3), (2, .ref g), (1, .ref h), (0, .ref b)])
    (kk : ∀ (v1 : PV) (w1 : MV) (H1 : Heap) (locs1 : List Loc), REL (N + 41) v1 w1 → va_P D vwCl (wX9 z h a1 a2 a3 hh hh1 d0 d1 d2 d3 t9 t91 r9 r91 r92 r93 v1 ++ wX10 z g g1 g2 g3 g4 g5 w1) H1 → va_D (fun q : Nat => s.heap.size ≤ q) (wX9 z h a1 a2 a3 hh hh1 d0 d1 d2 d3 t9 t91 r9 r91 r92 r93 v1 ++ wX10 z g g1 g2 g3 g4 g5 w1) → va_S (fun q : Nat => s.heap.size ≤ q) s.heap H1 locs1 → W p l e room_1 s m #[Value.ref b] below meth c H1 locs1 134 1958 Q (F0 m 686 ls [])) : W p l e room_1 s m #[Value.ref b] below meth c H locs 134 1958 Q (F0 m 459 ls []) := by
  obtain ⟨hx, hb, hr, hml, hown, hts, hX, hbl, hK, hE⟩ := C
  have hA : ∀ q : Nat, s.heap.size ≤ q → (fun q : Nat => s.heap.size ≤ q) q := fun _ h => h
  have hbA : ¬ (fun q : Nat => s.heap.size ≤ q) b := Nat.not_le.mpr hbl
  have h1 : vp_in (x3 + 1) L := by rw [show x3 + 1 = nI (i + 1) from nadd ex3 (nlit 1)]; exact vp_in_nI (by omega) (by omega)
  have h2 : vp_in (x3 + 2) L := by rw [show x3 + 2 = nI (i + 2) from nadd ex3 (nlit 2)]; exact vp_in_nI (by omega) (by omega)
  refine lv_aload_n hx hb dL_law_459 rfl (lv_at hl 2 rfl) ?_
  refine call_X (w1 := fun zu => wX9 z h a1 a2 a3 hh hh1 d0 d1 d2 d3 t9 t91 r9 r91 r92 r93 zu) len9 len10 (fun _ => len9) (rV (As := []) (rest := []) ⟨hx, hb, hml, hown, hts⟩ (c_X9_keep l D z tM tS h a1 a2 a3 hh hh1 d0 d1 d2 d3 t9 t91 r9 r91 r92 r93 v   H.size) (cwV 0 hts gL_law_X9_keep rfl rfl rfl (by decide +kernel) ⟨Nat.le_of_ble_eq_true rfl, Nat.le_of_ble_eq_true rfl⟩) (ev_ok tM tS) (e_go (ev_ok tM tS) hE hD hS hA (List.range 128) (gA1 len9)) hK hP hD (List.range 128) nd128 (gA1 len9) (va_recv hK hP (ci := 9) (q0 := 0) rfl rfl) rfl hl.1 rfl (Nat.le_of_ble_eq_true rfl) dL_law_460 ⟨Nat.le_of_ble_eq_true rfl, Nat.le_of_ble_eq_true rfl⟩) hK hP hD hS hA (fun r1 u1 H locs hw hP hD hS => ?_)
  have hw : (r1, u1) = f_X9_keep v := hw
  have hP : va_P D vwCl (wX9 z h a1 a2 a3 hh hh1 d0 d1 d2 d3 t9 t91 r9 r91 r92 r93 u1 ++ wX10 z g g1 g2 g3 g4 g5 w) H := hP
  have hD : va_D (fun q : Nat => s.heap.size ≤ q) (wX9 z h a1 a2 a3 hh hh1 d0 d1 d2 d3 t9 t91 r9 r91 r92 r93 u1 ++ wX10 z g g1 g2 g3 g4 g5 w) := hD
  refine lv_aload_n hx hb dL_law_463 rfl (lv_at hl 1 rfl) ?_
  refine call_M (wa := wX9 z h a1 a2 a3 hh hh1 d0 d1 d2 d3 t9 t91 r9 r91 r92 r93 u1) (wb := wX10 z g g1 g2 g3 g4 g5 w) len9 len10 (fun _ => len10) (rV (As := []) (rest := [.int r1]) ⟨hx, hb, hml, hown, hts⟩ (c_X10_keep l D z g g1 g2 g3 g4 g5 w   H.size) (cwV 0 hts gL_law_X10_keep rfl rfl rfl (by decide +kernel) ⟨Nat.le_of_ble_eq_true rfl, Nat.le_of_ble_eq_true rfl⟩) e0_ok e_0 hK hP hD (List.range' 128 6) nd6 (gB1 len9 len10) (va_recv hK hP (ci := 10) (q0 := 128) rfl rfl) rfl hl.1 rfl (Nat.le_of_ble_eq_true rfl) dL_law_464 ⟨Nat.le_of_ble_eq_true rfl, Nat.le_of_ble_eq_true rfl⟩) hK hP hD hS hA (fun r2 u2 H locs hq hP hD hS => ?_)
  have hq : (r2, u2) = f_X10_keep w := hq
  have hP : va_P D vwCl (wX9 z h a1 a2 a3 hh hh1 d0 d1 d2 d3 t9 t91 r9 r91 r92 r93 u1 ++ wX10 z g g1 g2 g3 g4 g5 (w.1, w.2.1, w.2.2.1, w.2.2.2.1, u2.1, u2.2, w.2.2.2.2.2.2)) H := hP
  have hD : va_D (fun q : Nat => s.heap.size ≤ q) (wX9 z h a1 a2 a3 hh hh1 d0 d1 d2 d3 t9 t91 r9 r91 r92 r93 u1 ++ wX10 z g g1 g2 g3 g4 g5 (w.1, w.2.1, w.2.2.1, w.2.2.2.1, u2.1, u2.2, w.2.2.2.2.2.2)) := hD
  have E := keep_m R
  refine lv_icmp_eq (tgt := 686) hx hb dL_law_467 (by decide) (fun _ => ?_) (fun c0 => absurd ((pe hw).1.trans (E.1.trans (pe hq).1.symm)) c0)
  exact kk u1 (w.1, w.2.1, w.2.2.1, w.2.2.2.1, u2.1, u2.2, w.2.2.2.2.2.2) _ _ (by rw [(pe hw).2, (pe hq).2]; exact rel_mono E.2 (by omega)) hP hD hS
set_option maxRecDepth 100000 in
set_option maxHeartbeats 2000000 in
theorem law_restore (C : LX p s m meth c b L xs D z tM tS) (ex3 : x3 = nI i) (hi : i + 3 ≤ L) (hL : L ≤ 1536) (R : REL N v w) (hN : N + 40 < 2 ^ 30) (hP : va_P D vwCl (wX9 z h a1 a2 a3 hh hh1 d0 d1 d2 d3 t9 t91 r9 r91 r92 r93 v ++ wX10 z g g1 g2 g3 g4 g5 w) H) (hD : va_D (fun q : Nat => s.heap.size ≤ q) (wX9 z h a1 a2 a3 hh hh1 d0 d1 d2 d3 t9 t91 r9 r91 r92 r93 v ++ wX10 z g g1 g2 g3 g4 g5 w)) (hS : va_S (fun q : Nat => s.heap.size ≤ q) s.heap H locs) (hl : lv_has ls 4 [(3, .int x3), (2, .ref g), (1, .ref h), (0, .ref b)])
    (kk : ∀ (v1 : PV) (w1 : MV) (H1 : Heap) (locs1 : List Loc), REL (N + 41) v1 w1 → va_P D vwCl (wX9 z h a1 a2 a3 hh hh1 d0 d1 d2 d3 t9 t91 r9 r91 r92 r93 v1 ++ wX10 z g g1 g2 g3 g4 g5 w1) H1 → va_D (fun q : Nat => s.heap.size ≤ q) (wX9 z h a1 a2 a3 hh hh1 d0 d1 d2 d3 t9 t91 r9 r91 r92 r93 v1 ++ wX10 z g g1 g2 g3 g4 g5 w1) → va_S (fun q : Nat => s.heap.size ≤ q) s.heap H1 locs1 → W p l e room_1 s m #[Value.ref b] below meth c H1 locs1 134 1958 Q (F0 m 686 ls [])) : W p l e room_1 s m #[Value.ref b] below meth c H locs 134 1958 Q (F0 m 472 ls []) := by
  obtain ⟨hx, hb, hr, hml, hown, hts, hX, hbl, hK, hE⟩ := C
  have hA : ∀ q : Nat, s.heap.size ≤ q → (fun q : Nat => s.heap.size ≤ q) q := fun _ h => h
  have hbA : ¬ (fun q : Nat => s.heap.size ≤ q) b := Nat.not_le.mpr hbl
  have h1 : vp_in (x3 + 1) L := by rw [show x3 + 1 = nI (i + 1) from nadd ex3 (nlit 1)]; exact vp_in_nI (by omega) (by omega)
  have h2 : vp_in (x3 + 2) L := by rw [show x3 + 2 = nI (i + 2) from nadd ex3 (nlit 2)]; exact vp_in_nI (by omega) (by omega)
  refine lv_aload_n hx hb dL_law_472 rfl (lv_at hl 2 rfl) ?_
  refine call_X (w1 := fun zu => wX9 z h a1 a2 a3 hh hh1 d0 d1 d2 d3 t9 t91 r9 r91 r92 r93 zu) len9 len10 (fun _ => len9) (rV (As := []) (rest := []) ⟨hx, hb, hml, hown, hts⟩ (c_X9_restore l D z tM tS h a1 a2 a3 hh hh1 d0 d1 d2 d3 t9 t91 r9 r91 r92 r93 v  (rl_n R).1 (rl_n R).2 H.size) (cwV 0 hts gL_law_X9_restore rfl rfl rfl (by decide +kernel) ⟨Nat.le_of_ble_eq_true rfl, Nat.le_of_ble_eq_true rfl⟩) (ev_ok tM tS) (e_go (ev_ok tM tS) hE hD hS hA (List.range 128) (gA1 len9)) hK hP hD (List.range 128) nd128 (gA1 len9) (va_recv hK hP (ci := 9) (q0 := 0) rfl rfl) rfl hl.1 rfl (Nat.le_of_ble_eq_true rfl) dL_law_473 ⟨Nat.le_of_ble_eq_true rfl, Nat.le_of_ble_eq_true rfl⟩) hK hP hD hS hA (fun r1 u1 H locs hw hP hD hS => ?_)
  have hw : (r1, u1) = f_X9_restore v := hw
  have hP : va_P D vwCl (wX9 z h a1 a2 a3 hh hh1 d0 d1 d2 d3 t9 t91 r9 r91 r92 r93 u1 ++ wX10 z g g1 g2 g3 g4 g5 w) H := hP
  have hD : va_D (fun q : Nat => s.heap.size ≤ q) (wX9 z h a1 a2 a3 hh hh1 d0 d1 d2 d3 t9 t91 r9 r91 r92 r93 u1 ++ wX10 z g g1 g2 g3 g4 g5 w) := hD
  refine lv_aload_n hx hb dL_law_476 rfl (lv_at hl 1 rfl) ?_
  refine call_M (wa := wX9 z h a1 a2 a3 hh hh1 d0 d1 d2 d3 t9 t91 r9 r91 r92 r93 u1) (wb := wX10 z g g1 g2 g3 g4 g5 w) len9 len10 (fun _ => len10) (rV (As := []) (rest := [.int r1]) ⟨hx, hb, hml, hown, hts⟩ (c_X10_restore l D z g g1 g2 g3 g4 g5 w  (rm_k R).1 (rm_k R).2 H.size) (cwV 0 hts gL_law_X10_restore rfl rfl rfl (by decide +kernel) ⟨Nat.le_of_ble_eq_true rfl, Nat.le_of_ble_eq_true rfl⟩) e0_ok e_0 hK hP hD (List.range' 128 6) nd6 (gB1 len9 len10) (va_recv hK hP (ci := 10) (q0 := 128) rfl rfl) rfl hl.1 rfl (Nat.le_of_ble_eq_true rfl) dL_law_477 ⟨Nat.le_of_ble_eq_true rfl, Nat.le_of_ble_eq_true rfl⟩) hK hP hD hS hA (fun r2 u2 H locs hq hP hD hS => ?_)
  have hq : (r2, u2) = f_X10_restore w := hq
  have hP : va_P D vwCl (wX9 z h a1 a2 a3 hh hh1 d0 d1 d2 d3 t9 t91 r9 r91 r92 r93 u1 ++ wX10 z g g1 g2 g3 g4 g5 (mv3 w u2)) H := hP
  have hD : va_D (fun q : Nat => s.heap.size ≤ q) (wX9 z h a1 a2 a3 hh hh1 d0 d1 d2 d3 t9 t91 r9 r91 r92 r93 u1 ++ wX10 z g g1 g2 g3 g4 g5 (mv3 w u2)) := hD
  have E := restore_m R
  refine lv_icmp_eq (tgt := 686) hx hb dL_law_480 (by decide) (fun _ => ?_) (fun c0 => absurd ((pe hw).1.trans (E.1.trans (pe hq).1.symm)) c0)
  exact kk u1 (mv3 w u2) _ _ (by rw [(pe hw).2, (pe hq).2]; exact rel_mono E.2 (by omega)) hP hD hS
set_option maxRecDepth 100000 in
set_option maxHeartbeats 2000000 in
theorem law_reel (C : LX p s m meth c b L xs D z tM tS) (ex3 : x3 = nI i) (hi : i + 3 ≤ L) (hL : L ≤ 1536) (R : REL N v w) (hN : N + 40 < 2 ^ 30) (hP : va_P D vwCl (wX9 z h a1 a2 a3 hh hh1 d0 d1 d2 d3 t9 t91 r9 r91 r92 r93 v ++ wX10 z g g1 g2 g3 g4 g5 w) H) (hD : va_D (fun q : Nat => s.heap.size ≤ q) (wX9 z h a1 a2 a3 hh hh1 d0 d1 d2 d3 t9 t91 r9 r91 r92 r93 v ++ wX10 z g g1 g2 g3 g4 g5 w)) (hS : va_S (fun q : Nat => s.heap.size ≤ q) s.heap H locs) (hl : lv_has ls 4 [(3, .int x3), (2, .ref g), (1, .ref h), (0, .ref b)])
    (kk : ∀ (v1 : PV) (w1 : MV) (H1 : Heap) (locs1 : List Loc), REL (N + 41) v1 w1 → va_P D vwCl (wX9 z h a1 a2 a3 hh hh1 d0 d1 d2 d3 t9 t91 r9 r91 r92 r93 v1 ++ wX10 z g g1 g2 g3 g4 g5 w1) H1 → va_D (fun q : Nat => s.heap.size ≤ q) (wX9 z h a1 a2 a3 hh hh1 d0 d1 d2 d3 t9 t91 r9 r91 r92 r93 v1 ++ wX10 z g g1 g2 g3 g4 g5 w1) → va_S (fun q : Nat => s.heap.size ≤ q) s.heap H1 locs1 → W p l e room_1 s m #[Value.ref b] below meth c H1 locs1 134 1958 Q (F0 m 686 ls [])) : W p l e room_1 s m #[Value.ref b] below meth c H locs 134 1958 Q (F0 m 485 ls []) := by
  obtain ⟨hx, hb, hr, hml, hown, hts, hX, hbl, hK, hE⟩ := C
  have hA : ∀ q : Nat, s.heap.size ≤ q → (fun q : Nat => s.heap.size ≤ q) q := fun _ h => h
  have hbA : ¬ (fun q : Nat => s.heap.size ≤ q) b := Nat.not_le.mpr hbl
  have h1 : vp_in (x3 + 1) L := by rw [show x3 + 1 = nI (i + 1) from nadd ex3 (nlit 1)]; exact vp_in_nI (by omega) (by omega)
  have h2 : vp_in (x3 + 2) L := by rw [show x3 + 2 = nI (i + 2) from nadd ex3 (nlit 2)]; exact vp_in_nI (by omega) (by omega)
  refine lv_aload_n hx hb dL_law_485 rfl (lv_at hl 2 rfl) ?_
  refine lv_aload_n hx hb dL_law_486 rfl (lv_at hl 3 rfl) ?_
  refine lv_iload_n hx hb dL_law_487 rfl (lv_at hl 0 rfl) ?_
  refine lv_iconst (v := 1) hx hb dL_law_488 (by decide) ?_
  refine lv_iadd hx hb dL_law_489 ?_
  refine va_sld hx hb hX hbl hbA hS h1 dL_law_490 ?_
  refine lv_aload_n hx hb dL_law_491 rfl (lv_at hl 3 rfl) ?_
  refine lv_iload_n hx hb dL_law_492 rfl (lv_at hl 0 rfl) ?_
  refine lv_iconst (v := 2) hx hb dL_law_493 (by decide) ?_
  refine lv_iadd hx hb dL_law_494 ?_
  refine va_sld hx hb hX hbl hbA hS h2 dL_law_495 ?_
  refine call_X (w1 := fun zu => wX9 z h a1 a2 a3 hh hh1 d0 d1 d2 d3 t9 t91 r9 r91 r92 r93 v) len9 len10 (fun _ => len9) (rV (As := [.int (xs (x3 + 1).toNatClampNeg), .int (xs (x3 + 2).toNatClampNeg)]) (rest := []) ⟨hx, hb, hml, hown, hts⟩ (c_X9_reel l D z tM tS h a1 a2 a3 hh hh1 d0 d1 d2 d3 t9 t91 r9 r91 r92 r93 v (xs (x3 + 1).toNatClampNeg) (xs (x3 + 2).toNatClampNeg) (rr_wok R.1.1) (rr_mok R.1.1) H.size) (cwV 2 hts gL_law_X9_reel rfl rfl rfl (by decide +kernel) ⟨Nat.le_of_ble_eq_true rfl, Nat.le_of_ble_eq_true rfl⟩) (ev_ok tM tS) (e_go (ev_ok tM tS) hE hD hS hA (List.range 128) (gA1 len9)) hK hP hD (List.range 128) nd128 (gA1 len9) (va_recv hK hP (ci := 9) (q0 := 0) rfl rfl) rfl hl.1 rfl (Nat.le_of_ble_eq_true rfl) dL_law_496 ⟨Nat.le_of_ble_eq_true rfl, Nat.le_of_ble_eq_true rfl⟩) hK hP hD hS hA (fun r1 u1 H locs hw hP hD hS => ?_)
  have hw : r1 = f_X9_reel v (xs (x3 + 1).toNatClampNeg) (xs (x3 + 2).toNatClampNeg) := hw
  have hP : va_P D vwCl (wX9 z h a1 a2 a3 hh hh1 d0 d1 d2 d3 t9 t91 r9 r91 r92 r93 v ++ wX10 z g g1 g2 g3 g4 g5 w) H := hP
  have hD : va_D (fun q : Nat => s.heap.size ≤ q) (wX9 z h a1 a2 a3 hh hh1 d0 d1 d2 d3 t9 t91 r9 r91 r92 r93 v ++ wX10 z g g1 g2 g3 g4 g5 w) := hD
  refine lv_aload_n hx hb dL_law_499 rfl (lv_at hl 1 rfl) ?_
  refine lv_aload_n hx hb dL_law_500 rfl (lv_at hl 3 rfl) ?_
  refine lv_iload_n hx hb dL_law_501 rfl (lv_at hl 0 rfl) ?_
  refine lv_iconst (v := 1) hx hb dL_law_502 (by decide) ?_
  refine lv_iadd hx hb dL_law_503 ?_
  refine va_sld hx hb hX hbl hbA hS h1 dL_law_504 ?_
  refine lv_aload_n hx hb dL_law_505 rfl (lv_at hl 3 rfl) ?_
  refine lv_iload_n hx hb dL_law_506 rfl (lv_at hl 0 rfl) ?_
  refine lv_iconst (v := 2) hx hb dL_law_507 (by decide) ?_
  refine lv_iadd hx hb dL_law_508 ?_
  refine va_sld hx hb hX hbl hbA hS h2 dL_law_509 ?_
  refine call_M (wa := wX9 z h a1 a2 a3 hh hh1 d0 d1 d2 d3 t9 t91 r9 r91 r92 r93 v) (wb := wX10 z g g1 g2 g3 g4 g5 w) len9 len10 (fun _ => len10) (rV (As := [.int (xs (x3 + 1).toNatClampNeg), .int (xs (x3 + 2).toNatClampNeg)]) (rest := [.int r1]) ⟨hx, hb, hml, hown, hts⟩ (c_X10_reel l D z g g1 g2 g3 g4 g5 w (xs (x3 + 1).toNatClampNeg) (xs (x3 + 2).toNatClampNeg) (rr_wm R.1.1) (rr_mm R.1.1) H.size) (cwV 2 hts gL_law_X10_reel rfl rfl rfl (by decide +kernel) ⟨Nat.le_of_ble_eq_true rfl, Nat.le_of_ble_eq_true rfl⟩) e0_ok e_0 hK hP hD (List.range' 128 6) nd6 (gB1 len9 len10) (va_recv hK hP (ci := 10) (q0 := 128) rfl rfl) rfl hl.1 rfl (Nat.le_of_ble_eq_true rfl) dL_law_510 ⟨Nat.le_of_ble_eq_true rfl, Nat.le_of_ble_eq_true rfl⟩) hK hP hD hS hA (fun r2 u2 H locs hq hP hD hS => ?_)
  have hq : r2 = f_X10_reel w.1 (xs (x3 + 1).toNatClampNeg) (xs (x3 + 2).toNatClampNeg) := hq
  have hP : va_P D vwCl (wX9 z h a1 a2 a3 hh hh1 d0 d1 d2 d3 t9 t91 r9 r91 r92 r93 v ++ wX10 z g g1 g2 g3 g4 g5 w) H := hP
  have hD : va_D (fun q : Nat => s.heap.size ≤ q) (wX9 z h a1 a2 a3 hh hh1 d0 d1 d2 d3 t9 t91 r9 r91 r92 r93 v ++ wX10 z g g1 g2 g3 g4 g5 w) := hD
  have E := reel_m R (xs (x3 + 1).toNatClampNeg) (xs (x3 + 2).toNatClampNeg)
  refine lv_icmp_eq (tgt := 686) hx hb dL_law_513 (by decide) (fun _ => ?_) (fun c0 => absurd (hw.trans (E.trans hq.symm)) c0)
  exact kk v w _ _ (rel_mono R (by omega)) hP hD hS
set_option maxRecDepth 100000 in
set_option maxHeartbeats 2000000 in
theorem law_generator (C : LX p s m meth c b L xs D z tM tS) (ex3 : x3 = nI i) (hi : i + 3 ≤ L) (hL : L ≤ 1536) (R : REL N v w) (hN : N + 40 < 2 ^ 30) (hP : va_P D vwCl (wX9 z h a1 a2 a3 hh hh1 d0 d1 d2 d3 t9 t91 r9 r91 r92 r93 v ++ wX10 z g g1 g2 g3 g4 g5 w) H) (hD : va_D (fun q : Nat => s.heap.size ≤ q) (wX9 z h a1 a2 a3 hh hh1 d0 d1 d2 d3 t9 t91 r9 r91 r92 r93 v ++ wX10 z g g1 g2 g3 g4 g5 w)) (hS : va_S (fun q : Nat => s.heap.size ≤ q) s.heap H locs) (hl : lv_has ls 4 [(3, .int x3), (2, .ref g), (1, .ref h), (0, .ref b)])
    (kk : ∀ (v1 : PV) (w1 : MV) (H1 : Heap) (locs1 : List Loc), REL (N + 41) v1 w1 → va_P D vwCl (wX9 z h a1 a2 a3 hh hh1 d0 d1 d2 d3 t9 t91 r9 r91 r92 r93 v1 ++ wX10 z g g1 g2 g3 g4 g5 w1) H1 → va_D (fun q : Nat => s.heap.size ≤ q) (wX9 z h a1 a2 a3 hh hh1 d0 d1 d2 d3 t9 t91 r9 r91 r92 r93 v1 ++ wX10 z g g1 g2 g3 g4 g5 w1) → va_S (fun q : Nat => s.heap.size ≤ q) s.heap H1 locs1 → W p l e room_1 s m #[Value.ref b] below meth c H1 locs1 134 1958 Q (F0 m 686 ls [])) : W p l e room_1 s m #[Value.ref b] below meth c H locs 134 1958 Q (F0 m 518 ls []) := by
  obtain ⟨hx, hb, hr, hml, hown, hts, hX, hbl, hK, hE⟩ := C
  have hA : ∀ q : Nat, s.heap.size ≤ q → (fun q : Nat => s.heap.size ≤ q) q := fun _ h => h
  have hbA : ¬ (fun q : Nat => s.heap.size ≤ q) b := Nat.not_le.mpr hbl
  have h1 : vp_in (x3 + 1) L := by rw [show x3 + 1 = nI (i + 1) from nadd ex3 (nlit 1)]; exact vp_in_nI (by omega) (by omega)
  have h2 : vp_in (x3 + 2) L := by rw [show x3 + 2 = nI (i + 2) from nadd ex3 (nlit 2)]; exact vp_in_nI (by omega) (by omega)
  refine lv_aload_n hx hb dL_law_518 rfl (lv_at hl 2 rfl) ?_
  refine lv_aload_n hx hb dL_law_519 rfl (lv_at hl 3 rfl) ?_
  refine lv_iload_n hx hb dL_law_520 rfl (lv_at hl 0 rfl) ?_
  refine lv_iconst (v := 1) hx hb dL_law_521 (by decide) ?_
  refine lv_iadd hx hb dL_law_522 ?_
  refine va_sld hx hb hX hbl hbA hS h1 dL_law_523 ?_
  refine lv_aload_n hx hb dL_law_524 rfl (lv_at hl 3 rfl) ?_
  refine lv_iload_n hx hb dL_law_525 rfl (lv_at hl 0 rfl) ?_
  refine lv_iconst (v := 2) hx hb dL_law_526 (by decide) ?_
  refine lv_iadd hx hb dL_law_527 ?_
  refine va_sld hx hb hX hbl hbA hS h2 dL_law_528 ?_
  refine call_X (w1 := fun zu => wX9 z h a1 a2 a3 hh hh1 d0 d1 d2 d3 t9 t91 r9 r91 r92 r93 v) len9 len10 (fun _ => len9) (rV (As := [.int (xs (x3 + 1).toNatClampNeg), .int (xs (x3 + 2).toNatClampNeg)]) (rest := []) ⟨hx, hb, hml, hown, hts⟩ (c_X9_generator l D z tM tS h a1 a2 a3 hh hh1 d0 d1 d2 d3 t9 t91 r9 r91 r92 r93 v (xs (x3 + 1).toNatClampNeg) (xs (x3 + 2).toNatClampNeg)  H.size) (cwV 2 hts gL_law_X9_generator rfl rfl rfl (by decide +kernel) ⟨Nat.le_of_ble_eq_true rfl, Nat.le_of_ble_eq_true rfl⟩) (ev_ok tM tS) (e_go (ev_ok tM tS) hE hD hS hA (List.range 128) (gA1 len9)) hK hP hD (List.range 128) nd128 (gA1 len9) (va_recv hK hP (ci := 9) (q0 := 0) rfl rfl) rfl hl.1 rfl (Nat.le_of_ble_eq_true rfl) dL_law_529 ⟨Nat.le_of_ble_eq_true rfl, Nat.le_of_ble_eq_true rfl⟩) hK hP hD hS hA (fun r1 u1 H locs hw hP hD hS => ?_)
  have hw : r1 = f_X9_generator v (xs (x3 + 1).toNatClampNeg) (xs (x3 + 2).toNatClampNeg) := hw
  have hP : va_P D vwCl (wX9 z h a1 a2 a3 hh hh1 d0 d1 d2 d3 t9 t91 r9 r91 r92 r93 v ++ wX10 z g g1 g2 g3 g4 g5 w) H := hP
  have hD : va_D (fun q : Nat => s.heap.size ≤ q) (wX9 z h a1 a2 a3 hh hh1 d0 d1 d2 d3 t9 t91 r9 r91 r92 r93 v ++ wX10 z g g1 g2 g3 g4 g5 w) := hD
  refine lv_aload_n hx hb dL_law_532 rfl (lv_at hl 1 rfl) ?_
  refine lv_aload_n hx hb dL_law_533 rfl (lv_at hl 3 rfl) ?_
  refine lv_iload_n hx hb dL_law_534 rfl (lv_at hl 0 rfl) ?_
  refine lv_iconst (v := 1) hx hb dL_law_535 (by decide) ?_
  refine lv_iadd hx hb dL_law_536 ?_
  refine va_sld hx hb hX hbl hbA hS h1 dL_law_537 ?_
  refine lv_aload_n hx hb dL_law_538 rfl (lv_at hl 3 rfl) ?_
  refine lv_iload_n hx hb dL_law_539 rfl (lv_at hl 0 rfl) ?_
  refine lv_iconst (v := 2) hx hb dL_law_540 (by decide) ?_
  refine lv_iadd hx hb dL_law_541 ?_
  refine va_sld hx hb hX hbl hbA hS h2 dL_law_542 ?_
  refine call_M (wa := wX9 z h a1 a2 a3 hh hh1 d0 d1 d2 d3 t9 t91 r9 r91 r92 r93 v) (wb := wX10 z g g1 g2 g3 g4 g5 w) len9 len10 (fun _ => len10) (rV (As := [.int (xs (x3 + 1).toNatClampNeg), .int (xs (x3 + 2).toNatClampNeg)]) (rest := [.int r1]) ⟨hx, hb, hml, hown, hts⟩ (c_X10_generator l D z g g1 g2 g3 g4 g5 w (xs (x3 + 1).toNatClampNeg) (xs (x3 + 2).toNatClampNeg)  H.size) (cwV 2 hts gL_law_X10_generator rfl rfl rfl (by decide +kernel) ⟨Nat.le_of_ble_eq_true rfl, Nat.le_of_ble_eq_true rfl⟩) e0_ok e_0 hK hP hD (List.range' 128 6) nd6 (gB1 len9 len10) (va_recv hK hP (ci := 10) (q0 := 128) rfl rfl) rfl hl.1 rfl (Nat.le_of_ble_eq_true rfl) dL_law_543 ⟨Nat.le_of_ble_eq_true rfl, Nat.le_of_ble_eq_true rfl⟩) hK hP hD hS hA (fun r2 u2 H locs hq hP hD hS => ?_)
  have hq : r2 = f_X10_generator w.1 (xs (x3 + 1).toNatClampNeg) (xs (x3 + 2).toNatClampNeg) := hq
  have hP : va_P D vwCl (wX9 z h a1 a2 a3 hh hh1 d0 d1 d2 d3 t9 t91 r9 r91 r92 r93 v ++ wX10 z g g1 g2 g3 g4 g5 w) H := hP
  have hD : va_D (fun q : Nat => s.heap.size ≤ q) (wX9 z h a1 a2 a3 hh hh1 d0 d1 d2 d3 t9 t91 r9 r91 r92 r93 v ++ wX10 z g g1 g2 g3 g4 g5 w) := hD
  have E := generator_m R (xs (x3 + 1).toNatClampNeg) (xs (x3 + 2).toNatClampNeg)
  refine lv_icmp_eq (tgt := 686) hx hb dL_law_546 (by decide) (fun _ => ?_) (fun c0 => absurd (hw.trans (E.trans hq.symm)) c0)
  exact kk v w _ _ (rel_mono R (by omega)) hP hD hS
set_option maxRecDepth 100000 in
set_option maxHeartbeats 2000000 in
theorem law_barn (C : LX p s m meth c b L xs D z tM tS) (ex3 : x3 = nI i) (hi : i + 3 ≤ L) (hL : L ≤ 1536) (R : REL N v w) (hN : N + 40 < 2 ^ 30) (hP : va_P D vwCl (wX9 z h a1 a2 a3 hh hh1 d0 d1 d2 d3 t9 t91 r9 r91 r92 r93 v ++ wX10 z g g1 g2 g3 g4 g5 w) H) (hD : va_D (fun q : Nat => s.heap.size ≤ q) (wX9 z h a1 a2 a3 hh hh1 d0 d1 d2 d3 t9 t91 r9 r91 r92 r93 v ++ wX10 z g g1 g2 g3 g4 g5 w)) (hS : va_S (fun q : Nat => s.heap.size ≤ q) s.heap H locs) (hl : lv_has ls 4 [(3, .int x3), (2, .ref g), (1, .ref h), (0, .ref b)])
    (kk : ∀ (v1 : PV) (w1 : MV) (H1 : Heap) (locs1 : List Loc), REL (N + 41) v1 w1 → va_P D vwCl (wX9 z h a1 a2 a3 hh hh1 d0 d1 d2 d3 t9 t91 r9 r91 r92 r93 v1 ++ wX10 z g g1 g2 g3 g4 g5 w1) H1 → va_D (fun q : Nat => s.heap.size ≤ q) (wX9 z h a1 a2 a3 hh hh1 d0 d1 d2 d3 t9 t91 r9 r91 r92 r93 v1 ++ wX10 z g g1 g2 g3 g4 g5 w1) → va_S (fun q : Nat => s.heap.size ≤ q) s.heap H1 locs1 → W p l e room_1 s m #[Value.ref b] below meth c H1 locs1 134 1958 Q (F0 m 686 ls [])) : W p l e room_1 s m #[Value.ref b] below meth c H locs 134 1958 Q (F0 m 551 ls []) := by
  obtain ⟨hx, hb, hr, hml, hown, hts, hX, hbl, hK, hE⟩ := C
  have hA : ∀ q : Nat, s.heap.size ≤ q → (fun q : Nat => s.heap.size ≤ q) q := fun _ h => h
  have hbA : ¬ (fun q : Nat => s.heap.size ≤ q) b := Nat.not_le.mpr hbl
  have h1 : vp_in (x3 + 1) L := by rw [show x3 + 1 = nI (i + 1) from nadd ex3 (nlit 1)]; exact vp_in_nI (by omega) (by omega)
  have h2 : vp_in (x3 + 2) L := by rw [show x3 + 2 = nI (i + 2) from nadd ex3 (nlit 2)]; exact vp_in_nI (by omega) (by omega)
  refine lv_aload_n hx hb dL_law_551 rfl (lv_at hl 2 rfl) ?_
  refine lv_aload_n hx hb dL_law_552 rfl (lv_at hl 3 rfl) ?_
  refine lv_iload_n hx hb dL_law_553 rfl (lv_at hl 0 rfl) ?_
  refine lv_iconst (v := 1) hx hb dL_law_554 (by decide) ?_
  refine lv_iadd hx hb dL_law_555 ?_
  refine va_sld hx hb hX hbl hbA hS h1 dL_law_556 ?_
  refine lv_aload_n hx hb dL_law_557 rfl (lv_at hl 3 rfl) ?_
  refine lv_iload_n hx hb dL_law_558 rfl (lv_at hl 0 rfl) ?_
  refine lv_iconst (v := 2) hx hb dL_law_559 (by decide) ?_
  refine lv_iadd hx hb dL_law_560 ?_
  refine va_sld hx hb hX hbl hbA hS h2 dL_law_561 ?_
  refine call_X (w1 := fun zu => wX9 z h a1 a2 a3 hh hh1 d0 d1 d2 d3 t9 t91 r9 r91 r92 r93 v) len9 len10 (fun _ => len9) (rV (As := [.int (xs (x3 + 1).toNatClampNeg), .int (xs (x3 + 2).toNatClampNeg)]) (rest := []) ⟨hx, hb, hml, hown, hts⟩ (c_X9_barn l D z tM tS h a1 a2 a3 hh hh1 d0 d1 d2 d3 t9 t91 r9 r91 r92 r93 v (xs (x3 + 1).toNatClampNeg) (xs (x3 + 2).toNatClampNeg)  H.size) (cwV 2 hts gL_law_X9_barn rfl rfl rfl (by decide +kernel) ⟨Nat.le_of_ble_eq_true rfl, Nat.le_of_ble_eq_true rfl⟩) (ev_ok tM tS) (e_go (ev_ok tM tS) hE hD hS hA (List.range 128) (gA1 len9)) hK hP hD (List.range 128) nd128 (gA1 len9) (va_recv hK hP (ci := 9) (q0 := 0) rfl rfl) rfl hl.1 rfl (Nat.le_of_ble_eq_true rfl) dL_law_562 ⟨Nat.le_of_ble_eq_true rfl, Nat.le_of_ble_eq_true rfl⟩) hK hP hD hS hA (fun r1 u1 H locs hw hP hD hS => ?_)
  have hw : r1 = f_X9_barn v (xs (x3 + 1).toNatClampNeg) (xs (x3 + 2).toNatClampNeg) := hw
  have hP : va_P D vwCl (wX9 z h a1 a2 a3 hh hh1 d0 d1 d2 d3 t9 t91 r9 r91 r92 r93 v ++ wX10 z g g1 g2 g3 g4 g5 w) H := hP
  have hD : va_D (fun q : Nat => s.heap.size ≤ q) (wX9 z h a1 a2 a3 hh hh1 d0 d1 d2 d3 t9 t91 r9 r91 r92 r93 v ++ wX10 z g g1 g2 g3 g4 g5 w) := hD
  refine lv_aload_n hx hb dL_law_565 rfl (lv_at hl 1 rfl) ?_
  refine lv_aload_n hx hb dL_law_566 rfl (lv_at hl 3 rfl) ?_
  refine lv_iload_n hx hb dL_law_567 rfl (lv_at hl 0 rfl) ?_
  refine lv_iconst (v := 1) hx hb dL_law_568 (by decide) ?_
  refine lv_iadd hx hb dL_law_569 ?_
  refine va_sld hx hb hX hbl hbA hS h1 dL_law_570 ?_
  refine lv_aload_n hx hb dL_law_571 rfl (lv_at hl 3 rfl) ?_
  refine lv_iload_n hx hb dL_law_572 rfl (lv_at hl 0 rfl) ?_
  refine lv_iconst (v := 2) hx hb dL_law_573 (by decide) ?_
  refine lv_iadd hx hb dL_law_574 ?_
  refine va_sld hx hb hX hbl hbA hS h2 dL_law_575 ?_
  refine call_M (wa := wX9 z h a1 a2 a3 hh hh1 d0 d1 d2 d3 t9 t91 r9 r91 r92 r93 v) (wb := wX10 z g g1 g2 g3 g4 g5 w) len9 len10 (fun _ => len10) (rV (As := [.int (xs (x3 + 1).toNatClampNeg), .int (xs (x3 + 2).toNatClampNeg)]) (rest := [.int r1]) ⟨hx, hb, hml, hown, hts⟩ (c_X10_barn l D z g g1 g2 g3 g4 g5 w (xs (x3 + 1).toNatClampNeg) (xs (x3 + 2).toNatClampNeg)  H.size) (cwV 2 hts gL_law_X10_barn rfl rfl rfl (by decide +kernel) ⟨Nat.le_of_ble_eq_true rfl, Nat.le_of_ble_eq_true rfl⟩) e0_ok e_0 hK hP hD (List.range' 128 6) nd6 (gB1 len9 len10) (va_recv hK hP (ci := 10) (q0 := 128) rfl rfl) rfl hl.1 rfl (Nat.le_of_ble_eq_true rfl) dL_law_576 ⟨Nat.le_of_ble_eq_true rfl, Nat.le_of_ble_eq_true rfl⟩) hK hP hD hS hA (fun r2 u2 H locs hq hP hD hS => ?_)
  have hq : r2 = f_X10_barn w.1 (xs (x3 + 1).toNatClampNeg) (xs (x3 + 2).toNatClampNeg) := hq
  have hP : va_P D vwCl (wX9 z h a1 a2 a3 hh hh1 d0 d1 d2 d3 t9 t91 r9 r91 r92 r93 v ++ wX10 z g g1 g2 g3 g4 g5 w) H := hP
  have hD : va_D (fun q : Nat => s.heap.size ≤ q) (wX9 z h a1 a2 a3 hh hh1 d0 d1 d2 d3 t9 t91 r9 r91 r92 r93 v ++ wX10 z g g1 g2 g3 g4 g5 w) := hD
  have E := barn_m R (by omega) (xs (x3 + 1).toNatClampNeg) (xs (x3 + 2).toNatClampNeg)
  refine lv_icmp_eq (tgt := 686) hx hb dL_law_579 (by decide) (fun _ => ?_) (fun c0 => absurd (hw.trans (E.trans hq.symm)) c0)
  exact kk v w _ _ (rel_mono R (by omega)) hP hD hS
set_option maxRecDepth 100000 in
set_option maxHeartbeats 2000000 in
theorem law_bestBarn (C : LX p s m meth c b L xs D z tM tS) (ex3 : x3 = nI i) (hi : i + 3 ≤ L) (hL : L ≤ 1536) (R : REL N v w) (hN : N + 40 < 2 ^ 30) (hP : va_P D vwCl (wX9 z h a1 a2 a3 hh hh1 d0 d1 d2 d3 t9 t91 r9 r91 r92 r93 v ++ wX10 z g g1 g2 g3 g4 g5 w) H) (hD : va_D (fun q : Nat => s.heap.size ≤ q) (wX9 z h a1 a2 a3 hh hh1 d0 d1 d2 d3 t9 t91 r9 r91 r92 r93 v ++ wX10 z g g1 g2 g3 g4 g5 w)) (hS : va_S (fun q : Nat => s.heap.size ≤ q) s.heap H locs) (hl : lv_has ls 4 [(3, .int x3), (2, .ref g), (1, .ref h), (0, .ref b)])
    (kk : ∀ (v1 : PV) (w1 : MV) (H1 : Heap) (locs1 : List Loc), REL (N + 41) v1 w1 → va_P D vwCl (wX9 z h a1 a2 a3 hh hh1 d0 d1 d2 d3 t9 t91 r9 r91 r92 r93 v1 ++ wX10 z g g1 g2 g3 g4 g5 w1) H1 → va_D (fun q : Nat => s.heap.size ≤ q) (wX9 z h a1 a2 a3 hh hh1 d0 d1 d2 d3 t9 t91 r9 r91 r92 r93 v1 ++ wX10 z g g1 g2 g3 g4 g5 w1) → va_S (fun q : Nat => s.heap.size ≤ q) s.heap H1 locs1 → W p l e room_1 s m #[Value.ref b] below meth c H1 locs1 134 1958 Q (F0 m 686 ls [])) : W p l e room_1 s m #[Value.ref b] below meth c H locs 134 1958 Q (F0 m 584 ls []) := by
  obtain ⟨hx, hb, hr, hml, hown, hts, hX, hbl, hK, hE⟩ := C
  have hA : ∀ q : Nat, s.heap.size ≤ q → (fun q : Nat => s.heap.size ≤ q) q := fun _ h => h
  have hbA : ¬ (fun q : Nat => s.heap.size ≤ q) b := Nat.not_le.mpr hbl
  have h1 : vp_in (x3 + 1) L := by rw [show x3 + 1 = nI (i + 1) from nadd ex3 (nlit 1)]; exact vp_in_nI (by omega) (by omega)
  have h2 : vp_in (x3 + 2) L := by rw [show x3 + 2 = nI (i + 2) from nadd ex3 (nlit 2)]; exact vp_in_nI (by omega) (by omega)
  refine lv_aload_n hx hb dL_law_584 rfl (lv_at hl 2 rfl) ?_
  refine call_X (w1 := fun zu => wX9 z h a1 a2 a3 hh hh1 d0 d1 d2 d3 t9 t91 r9 r91 r92 r93 v) len9 len10 (fun _ => len9) (rV (As := []) (rest := []) ⟨hx, hb, hml, hown, hts⟩ (c_X9_bestBarn l D z tM tS h a1 a2 a3 hh hh1 d0 d1 d2 d3 t9 t91 r9 r91 r92 r93 v   H.size) (cwV 0 hts gL_law_X9_bestBarn rfl rfl rfl (by decide +kernel) ⟨Nat.le_of_ble_eq_true rfl, Nat.le_of_ble_eq_true rfl⟩) (ev_ok tM tS) (e_go (ev_ok tM tS) hE hD hS hA (List.range 128) (gA1 len9)) hK hP hD (List.range 128) nd128 (gA1 len9) (va_recv hK hP (ci := 9) (q0 := 0) rfl rfl) rfl hl.1 rfl (Nat.le_of_ble_eq_true rfl) dL_law_585 ⟨Nat.le_of_ble_eq_true rfl, Nat.le_of_ble_eq_true rfl⟩) hK hP hD hS hA (fun r1 u1 H locs hw hP hD hS => ?_)
  have hw : r1 = f_X9_bestBarn v := hw
  have hP : va_P D vwCl (wX9 z h a1 a2 a3 hh hh1 d0 d1 d2 d3 t9 t91 r9 r91 r92 r93 v ++ wX10 z g g1 g2 g3 g4 g5 w) H := hP
  have hD : va_D (fun q : Nat => s.heap.size ≤ q) (wX9 z h a1 a2 a3 hh hh1 d0 d1 d2 d3 t9 t91 r9 r91 r92 r93 v ++ wX10 z g g1 g2 g3 g4 g5 w) := hD
  refine lv_aload_n hx hb dL_law_588 rfl (lv_at hl 1 rfl) ?_
  refine call_M (wa := wX9 z h a1 a2 a3 hh hh1 d0 d1 d2 d3 t9 t91 r9 r91 r92 r93 v) (wb := wX10 z g g1 g2 g3 g4 g5 w) len9 len10 (fun _ => len10) (rV (As := []) (rest := [.int r1]) ⟨hx, hb, hml, hown, hts⟩ (c_X10_bestBarn l D z g g1 g2 g3 g4 g5 w   H.size) (cwV 0 hts gL_law_X10_bestBarn rfl rfl rfl (by decide +kernel) ⟨Nat.le_of_ble_eq_true rfl, Nat.le_of_ble_eq_true rfl⟩) e0_ok e_0 hK hP hD (List.range' 128 6) nd6 (gB1 len9 len10) (va_recv hK hP (ci := 10) (q0 := 128) rfl rfl) rfl hl.1 rfl (Nat.le_of_ble_eq_true rfl) dL_law_589 ⟨Nat.le_of_ble_eq_true rfl, Nat.le_of_ble_eq_true rfl⟩) hK hP hD hS hA (fun r2 u2 H locs hq hP hD hS => ?_)
  have hq : r2 = f_X10_bestBarn w.1 := hq
  have hP : va_P D vwCl (wX9 z h a1 a2 a3 hh hh1 d0 d1 d2 d3 t9 t91 r9 r91 r92 r93 v ++ wX10 z g g1 g2 g3 g4 g5 w) H := hP
  have hD : va_D (fun q : Nat => s.heap.size ≤ q) (wX9 z h a1 a2 a3 hh hh1 d0 d1 d2 d3 t9 t91 r9 r91 r92 r93 v ++ wX10 z g g1 g2 g3 g4 g5 w) := hD
  have E := bestBarn_m R (by omega)
  refine lv_icmp_eq (tgt := 686) hx hb dL_law_592 (by decide) (fun _ => ?_) (fun c0 => absurd (hw.trans (E.trans hq.symm)) c0)
  exact kk v w _ _ (rel_mono R (by omega)) hP hD hS
set_option maxRecDepth 100000 in
set_option maxHeartbeats 2000000 in
theorem law_ifPrice (C : LX p s m meth c b L xs D z tM tS) (ex3 : x3 = nI i) (hi : i + 3 ≤ L) (hL : L ≤ 1536) (R : REL N v w) (hN : N + 40 < 2 ^ 30) (hP : va_P D vwCl (wX9 z h a1 a2 a3 hh hh1 d0 d1 d2 d3 t9 t91 r9 r91 r92 r93 v ++ wX10 z g g1 g2 g3 g4 g5 w) H) (hD : va_D (fun q : Nat => s.heap.size ≤ q) (wX9 z h a1 a2 a3 hh hh1 d0 d1 d2 d3 t9 t91 r9 r91 r92 r93 v ++ wX10 z g g1 g2 g3 g4 g5 w)) (hS : va_S (fun q : Nat => s.heap.size ≤ q) s.heap H locs) (hl : lv_has ls 4 [(3, .int x3), (2, .ref g), (1, .ref h), (0, .ref b)])
    (kk : ∀ (v1 : PV) (w1 : MV) (H1 : Heap) (locs1 : List Loc), REL (N + 41) v1 w1 → va_P D vwCl (wX9 z h a1 a2 a3 hh hh1 d0 d1 d2 d3 t9 t91 r9 r91 r92 r93 v1 ++ wX10 z g g1 g2 g3 g4 g5 w1) H1 → va_D (fun q : Nat => s.heap.size ≤ q) (wX9 z h a1 a2 a3 hh hh1 d0 d1 d2 d3 t9 t91 r9 r91 r92 r93 v1 ++ wX10 z g g1 g2 g3 g4 g5 w1) → va_S (fun q : Nat => s.heap.size ≤ q) s.heap H1 locs1 → W p l e room_1 s m #[Value.ref b] below meth c H1 locs1 134 1958 Q (F0 m 686 ls [])) : W p l e room_1 s m #[Value.ref b] below meth c H locs 134 1958 Q (F0 m 597 ls []) := by
  obtain ⟨hx, hb, hr, hml, hown, hts, hX, hbl, hK, hE⟩ := C
  have hA : ∀ q : Nat, s.heap.size ≤ q → (fun q : Nat => s.heap.size ≤ q) q := fun _ h => h
  have hbA : ¬ (fun q : Nat => s.heap.size ≤ q) b := Nat.not_le.mpr hbl
  have h1 : vp_in (x3 + 1) L := by rw [show x3 + 1 = nI (i + 1) from nadd ex3 (nlit 1)]; exact vp_in_nI (by omega) (by omega)
  have h2 : vp_in (x3 + 2) L := by rw [show x3 + 2 = nI (i + 2) from nadd ex3 (nlit 2)]; exact vp_in_nI (by omega) (by omega)
  refine lv_aload_n hx hb dL_law_597 rfl (lv_at hl 2 rfl) ?_
  refine lv_aload_n hx hb dL_law_598 rfl (lv_at hl 3 rfl) ?_
  refine lv_iload_n hx hb dL_law_599 rfl (lv_at hl 0 rfl) ?_
  refine lv_iconst (v := 1) hx hb dL_law_600 (by decide) ?_
  refine lv_iadd hx hb dL_law_601 ?_
  refine va_sld hx hb hX hbl hbA hS h1 dL_law_602 ?_
  refine lv_aload_n hx hb dL_law_603 rfl (lv_at hl 3 rfl) ?_
  refine lv_iload_n hx hb dL_law_604 rfl (lv_at hl 0 rfl) ?_
  refine lv_iconst (v := 2) hx hb dL_law_605 (by decide) ?_
  refine lv_iadd hx hb dL_law_606 ?_
  refine va_sld hx hb hX hbl hbA hS h2 dL_law_607 ?_
  refine call_X (w1 := fun zu => wX9 z h a1 a2 a3 hh hh1 d0 d1 d2 d3 t9 t91 r9 r91 r92 r93 v) len9 len10 (fun _ => len9) (rV (As := [.int (xs (x3 + 1).toNatClampNeg), .int (xs (x3 + 2).toNatClampNeg)]) (rest := []) ⟨hx, hb, hml, hown, hts⟩ (c_X9_ifPrice l D z tM tS h a1 a2 a3 hh hh1 d0 d1 d2 d3 t9 t91 r9 r91 r92 r93 v (xs (x3 + 1).toNatClampNeg) (xs (x3 + 2).toNatClampNeg)  H.size) (cwV 2 hts gL_law_X9_ifPrice rfl rfl rfl (by decide +kernel) ⟨Nat.le_of_ble_eq_true rfl, Nat.le_of_ble_eq_true rfl⟩) (ev_ok tM tS) (e_go (ev_ok tM tS) hE hD hS hA (List.range 128) (gA1 len9)) hK hP hD (List.range 128) nd128 (gA1 len9) (va_recv hK hP (ci := 9) (q0 := 0) rfl rfl) rfl hl.1 rfl (Nat.le_of_ble_eq_true rfl) dL_law_608 ⟨Nat.le_of_ble_eq_true rfl, Nat.le_of_ble_eq_true rfl⟩) hK hP hD hS hA (fun r1 u1 H locs hw hP hD hS => ?_)
  have hw : r1 = f_X9_ifPrice v (xs (x3 + 1).toNatClampNeg) (xs (x3 + 2).toNatClampNeg) := hw
  have hP : va_P D vwCl (wX9 z h a1 a2 a3 hh hh1 d0 d1 d2 d3 t9 t91 r9 r91 r92 r93 v ++ wX10 z g g1 g2 g3 g4 g5 w) H := hP
  have hD : va_D (fun q : Nat => s.heap.size ≤ q) (wX9 z h a1 a2 a3 hh hh1 d0 d1 d2 d3 t9 t91 r9 r91 r92 r93 v ++ wX10 z g g1 g2 g3 g4 g5 w) := hD
  refine lv_aload_n hx hb dL_law_611 rfl (lv_at hl 1 rfl) ?_
  refine lv_aload_n hx hb dL_law_612 rfl (lv_at hl 3 rfl) ?_
  refine lv_iload_n hx hb dL_law_613 rfl (lv_at hl 0 rfl) ?_
  refine lv_iconst (v := 1) hx hb dL_law_614 (by decide) ?_
  refine lv_iadd hx hb dL_law_615 ?_
  refine va_sld hx hb hX hbl hbA hS h1 dL_law_616 ?_
  refine lv_aload_n hx hb dL_law_617 rfl (lv_at hl 3 rfl) ?_
  refine lv_iload_n hx hb dL_law_618 rfl (lv_at hl 0 rfl) ?_
  refine lv_iconst (v := 2) hx hb dL_law_619 (by decide) ?_
  refine lv_iadd hx hb dL_law_620 ?_
  refine va_sld hx hb hX hbl hbA hS h2 dL_law_621 ?_
  refine call_M (wa := wX9 z h a1 a2 a3 hh hh1 d0 d1 d2 d3 t9 t91 r9 r91 r92 r93 v) (wb := wX10 z g g1 g2 g3 g4 g5 w) len9 len10 (fun _ => len10) (rV (As := [.int (xs (x3 + 1).toNatClampNeg), .int (xs (x3 + 2).toNatClampNeg)]) (rest := [.int r1]) ⟨hx, hb, hml, hown, hts⟩ (c_X10_ifPrice l D z g g1 g2 g3 g4 g5 w (xs (x3 + 1).toNatClampNeg) (xs (x3 + 2).toNatClampNeg)  H.size) (cwV 2 hts gL_law_X10_ifPrice rfl rfl rfl (by decide +kernel) ⟨Nat.le_of_ble_eq_true rfl, Nat.le_of_ble_eq_true rfl⟩) e0_ok e_0 hK hP hD (List.range' 128 6) nd6 (gB1 len9 len10) (va_recv hK hP (ci := 10) (q0 := 128) rfl rfl) rfl hl.1 rfl (Nat.le_of_ble_eq_true rfl) dL_law_622 ⟨Nat.le_of_ble_eq_true rfl, Nat.le_of_ble_eq_true rfl⟩) hK hP hD hS hA (fun r2 u2 H locs hq hP hD hS => ?_)
  have hq : r2 = f_X10_ifPrice w.1 (xs (x3 + 1).toNatClampNeg) (xs (x3 + 2).toNatClampNeg) := hq
  have hP : va_P D vwCl (wX9 z h a1 a2 a3 hh hh1 d0 d1 d2 d3 t9 t91 r9 r91 r92 r93 v ++ wX10 z g g1 g2 g3 g4 g5 w) H := hP
  have hD : va_D (fun q : Nat => s.heap.size ≤ q) (wX9 z h a1 a2 a3 hh hh1 d0 d1 d2 d3 t9 t91 r9 r91 r92 r93 v ++ wX10 z g g1 g2 g3 g4 g5 w) := hD
  have E := ifPrice_m R (xs (x3 + 1).toNatClampNeg) (xs (x3 + 2).toNatClampNeg)
  refine lv_icmp_eq (tgt := 686) hx hb dL_law_625 (by decide) (fun _ => ?_) (fun c0 => absurd (hw.trans (E.trans hq.symm)) c0)
  exact kk v w _ _ (rel_mono R (by omega)) hP hD hS
set_option maxRecDepth 100000 in
set_option maxHeartbeats 2000000 in
theorem law_showOf (C : LX p s m meth c b L xs D z tM tS) (ex3 : x3 = nI i) (hi : i + 3 ≤ L) (hL : L ≤ 1536) (R : REL N v w) (hN : N + 40 < 2 ^ 30) (hP : va_P D vwCl (wX9 z h a1 a2 a3 hh hh1 d0 d1 d2 d3 t9 t91 r9 r91 r92 r93 v ++ wX10 z g g1 g2 g3 g4 g5 w) H) (hD : va_D (fun q : Nat => s.heap.size ≤ q) (wX9 z h a1 a2 a3 hh hh1 d0 d1 d2 d3 t9 t91 r9 r91 r92 r93 v ++ wX10 z g g1 g2 g3 g4 g5 w)) (hS : va_S (fun q : Nat => s.heap.size ≤ q) s.heap H locs) (hl : lv_has ls 4 [(3, .int x3), (2, .ref g), (1, .ref h), (0, .ref b)])
    (kk : ∀ (v1 : PV) (w1 : MV) (H1 : Heap) (locs1 : List Loc), REL (N + 41) v1 w1 → va_P D vwCl (wX9 z h a1 a2 a3 hh hh1 d0 d1 d2 d3 t9 t91 r9 r91 r92 r93 v1 ++ wX10 z g g1 g2 g3 g4 g5 w1) H1 → va_D (fun q : Nat => s.heap.size ≤ q) (wX9 z h a1 a2 a3 hh hh1 d0 d1 d2 d3 t9 t91 r9 r91 r92 r93 v1 ++ wX10 z g g1 g2 g3 g4 g5 w1) → va_S (fun q : Nat => s.heap.size ≤ q) s.heap H1 locs1 → W p l e room_1 s m #[Value.ref b] below meth c H1 locs1 134 1958 Q (F0 m 686 ls [])) : W p l e room_1 s m #[Value.ref b] below meth c H locs 134 1958 Q (F0 m 630 ls []) := by
  obtain ⟨hx, hb, hr, hml, hown, hts, hX, hbl, hK, hE⟩ := C
  have hA : ∀ q : Nat, s.heap.size ≤ q → (fun q : Nat => s.heap.size ≤ q) q := fun _ h => h
  have hbA : ¬ (fun q : Nat => s.heap.size ≤ q) b := Nat.not_le.mpr hbl
  have h1 : vp_in (x3 + 1) L := by rw [show x3 + 1 = nI (i + 1) from nadd ex3 (nlit 1)]; exact vp_in_nI (by omega) (by omega)
  have h2 : vp_in (x3 + 2) L := by rw [show x3 + 2 = nI (i + 2) from nadd ex3 (nlit 2)]; exact vp_in_nI (by omega) (by omega)
  refine lv_aload_n hx hb dL_law_630 rfl (lv_at hl 2 rfl) ?_
  refine lv_aload_n hx hb dL_law_631 rfl (lv_at hl 3 rfl) ?_
  refine lv_iload_n hx hb dL_law_632 rfl (lv_at hl 0 rfl) ?_
  refine lv_iconst (v := 1) hx hb dL_law_633 (by decide) ?_
  refine lv_iadd hx hb dL_law_634 ?_
  refine va_sld hx hb hX hbl hbA hS h1 dL_law_635 ?_
  refine lv_aload_n hx hb dL_law_636 rfl (lv_at hl 3 rfl) ?_
  refine lv_iload_n hx hb dL_law_637 rfl (lv_at hl 0 rfl) ?_
  refine lv_iconst (v := 2) hx hb dL_law_638 (by decide) ?_
  refine lv_iadd hx hb dL_law_639 ?_
  refine va_sld hx hb hX hbl hbA hS h2 dL_law_640 ?_
  refine call_X (w1 := fun zu => wX9 z h a1 a2 a3 hh hh1 d0 d1 d2 d3 t9 t91 r9 r91 r92 r93 v) len9 len10 (fun _ => len9) (rV (As := [.int (xs (x3 + 1).toNatClampNeg), .int (xs (x3 + 2).toNatClampNeg)]) (rest := []) ⟨hx, hb, hml, hown, hts⟩ (c_X9_showOf l D z tM tS h a1 a2 a3 hh hh1 d0 d1 d2 d3 t9 t91 r9 r91 r92 r93 v (xs (x3 + 1).toNatClampNeg) (xs (x3 + 2).toNatClampNeg) (rl_ls R) H.size) (cwV 2 hts gL_law_X9_showOf rfl rfl rfl (by decide +kernel) ⟨Nat.le_of_ble_eq_true rfl, Nat.le_of_ble_eq_true rfl⟩) (ev_ok tM tS) (e_go (ev_ok tM tS) hE hD hS hA (List.range 128) (gA1 len9)) hK hP hD (List.range 128) nd128 (gA1 len9) (va_recv hK hP (ci := 9) (q0 := 0) rfl rfl) rfl hl.1 rfl (Nat.le_of_ble_eq_true rfl) dL_law_641 ⟨Nat.le_of_ble_eq_true rfl, Nat.le_of_ble_eq_true rfl⟩) hK hP hD hS hA (fun r1 u1 H locs hw hP hD hS => ?_)
  have hw : r1 = f_X9_showOf v (xs (x3 + 1).toNatClampNeg) (xs (x3 + 2).toNatClampNeg) := hw
  have hP : va_P D vwCl (wX9 z h a1 a2 a3 hh hh1 d0 d1 d2 d3 t9 t91 r9 r91 r92 r93 v ++ wX10 z g g1 g2 g3 g4 g5 w) H := hP
  have hD : va_D (fun q : Nat => s.heap.size ≤ q) (wX9 z h a1 a2 a3 hh hh1 d0 d1 d2 d3 t9 t91 r9 r91 r92 r93 v ++ wX10 z g g1 g2 g3 g4 g5 w) := hD
  refine lv_aload_n hx hb dL_law_644 rfl (lv_at hl 1 rfl) ?_
  refine lv_aload_n hx hb dL_law_645 rfl (lv_at hl 3 rfl) ?_
  refine lv_iload_n hx hb dL_law_646 rfl (lv_at hl 0 rfl) ?_
  refine lv_iconst (v := 1) hx hb dL_law_647 (by decide) ?_
  refine lv_iadd hx hb dL_law_648 ?_
  refine va_sld hx hb hX hbl hbA hS h1 dL_law_649 ?_
  refine lv_aload_n hx hb dL_law_650 rfl (lv_at hl 3 rfl) ?_
  refine lv_iload_n hx hb dL_law_651 rfl (lv_at hl 0 rfl) ?_
  refine lv_iconst (v := 2) hx hb dL_law_652 (by decide) ?_
  refine lv_iadd hx hb dL_law_653 ?_
  refine va_sld hx hb hX hbl hbA hS h2 dL_law_654 ?_
  refine call_M (wa := wX9 z h a1 a2 a3 hh hh1 d0 d1 d2 d3 t9 t91 r9 r91 r92 r93 v) (wb := wX10 z g g1 g2 g3 g4 g5 w) len9 len10 (fun _ => len10) (rV (As := [.int (xs (x3 + 1).toNatClampNeg), .int (xs (x3 + 2).toNatClampNeg)]) (rest := [.int r1]) ⟨hx, hb, hml, hown, hts⟩ (c_X10_showOf l D z g g1 g2 g3 g4 g5 w (xs (x3 + 1).toNatClampNeg) (xs (x3 + 2).toNatClampNeg) (rm_ls R) H.size) (cwV 2 hts gL_law_X10_showOf rfl rfl rfl (by decide +kernel) ⟨Nat.le_of_ble_eq_true rfl, Nat.le_of_ble_eq_true rfl⟩) e0_ok e_0 hK hP hD (List.range' 128 6) nd6 (gB1 len9 len10) (va_recv hK hP (ci := 10) (q0 := 128) rfl rfl) rfl hl.1 rfl (Nat.le_of_ble_eq_true rfl) dL_law_655 ⟨Nat.le_of_ble_eq_true rfl, Nat.le_of_ble_eq_true rfl⟩) hK hP hD hS hA (fun r2 u2 H locs hq hP hD hS => ?_)
  have hq : r2 = f_X10_showOf w.1 (xs (x3 + 1).toNatClampNeg) (xs (x3 + 2).toNatClampNeg) := hq
  have hP : va_P D vwCl (wX9 z h a1 a2 a3 hh hh1 d0 d1 d2 d3 t9 t91 r9 r91 r92 r93 v ++ wX10 z g g1 g2 g3 g4 g5 w) H := hP
  have hD : va_D (fun q : Nat => s.heap.size ≤ q) (wX9 z h a1 a2 a3 hh hh1 d0 d1 d2 d3 t9 t91 r9 r91 r92 r93 v ++ wX10 z g g1 g2 g3 g4 g5 w) := hD
  have E := showOf_m R (xs (x3 + 1).toNatClampNeg) (xs (x3 + 2).toNatClampNeg)
  refine lv_icmp_eq (tgt := 686) hx hb dL_law_658 (by decide) (fun _ => ?_) (fun c0 => absurd (hw.trans (E.trans hq.symm)) c0)
  exact kk v w _ _ (rel_mono R (by omega)) hP hD hS
set_option maxRecDepth 100000 in
set_option maxHeartbeats 2000000 in
theorem law_count (C : LX p s m meth c b L xs D z tM tS) (ex3 : x3 = nI i) (hi : i + 3 ≤ L) (hL : L ≤ 1536) (R : REL N v w) (hN : N + 40 < 2 ^ 30) (hP : va_P D vwCl (wX9 z h a1 a2 a3 hh hh1 d0 d1 d2 d3 t9 t91 r9 r91 r92 r93 v ++ wX10 z g g1 g2 g3 g4 g5 w) H) (hD : va_D (fun q : Nat => s.heap.size ≤ q) (wX9 z h a1 a2 a3 hh hh1 d0 d1 d2 d3 t9 t91 r9 r91 r92 r93 v ++ wX10 z g g1 g2 g3 g4 g5 w)) (hS : va_S (fun q : Nat => s.heap.size ≤ q) s.heap H locs) (hl : lv_has ls 4 [(3, .int x3), (2, .ref g), (1, .ref h), (0, .ref b)])
    (kk : ∀ (v1 : PV) (w1 : MV) (H1 : Heap) (locs1 : List Loc), REL (N + 41) v1 w1 → va_P D vwCl (wX9 z h a1 a2 a3 hh hh1 d0 d1 d2 d3 t9 t91 r9 r91 r92 r93 v1 ++ wX10 z g g1 g2 g3 g4 g5 w1) H1 → va_D (fun q : Nat => s.heap.size ≤ q) (wX9 z h a1 a2 a3 hh hh1 d0 d1 d2 d3 t9 t91 r9 r91 r92 r93 v1 ++ wX10 z g g1 g2 g3 g4 g5 w1) → va_S (fun q : Nat => s.heap.size ≤ q) s.heap H1 locs1 → W p l e room_1 s m #[Value.ref b] below meth c H1 locs1 134 1958 Q (F0 m 686 ls [])) : W p l e room_1 s m #[Value.ref b] below meth c H locs 134 1958 Q (F0 m 663 ls []) := by
  obtain ⟨hx, hb, hr, hml, hown, hts, hX, hbl, hK, hE⟩ := C
  have hA : ∀ q : Nat, s.heap.size ≤ q → (fun q : Nat => s.heap.size ≤ q) q := fun _ h => h
  have hbA : ¬ (fun q : Nat => s.heap.size ≤ q) b := Nat.not_le.mpr hbl
  have h1 : vp_in (x3 + 1) L := by rw [show x3 + 1 = nI (i + 1) from nadd ex3 (nlit 1)]; exact vp_in_nI (by omega) (by omega)
  have h2 : vp_in (x3 + 2) L := by rw [show x3 + 2 = nI (i + 2) from nadd ex3 (nlit 2)]; exact vp_in_nI (by omega) (by omega)
  refine lv_aload_n hx hb dL_law_663 rfl (lv_at hl 2 rfl) ?_
  refine lv_aload_n hx hb dL_law_664 rfl (lv_at hl 3 rfl) ?_
  refine lv_iload_n hx hb dL_law_665 rfl (lv_at hl 0 rfl) ?_
  refine lv_iconst (v := 1) hx hb dL_law_666 (by decide) ?_
  refine lv_iadd hx hb dL_law_667 ?_
  refine va_sld hx hb hX hbl hbA hS h1 dL_law_668 ?_
  refine call_X (w1 := fun zu => wX9 z h a1 a2 a3 hh hh1 d0 d1 d2 d3 t9 t91 r9 r91 r92 r93 v) len9 len10 (fun _ => len9) (rV (As := [.int (xs (x3 + 1).toNatClampNeg)]) (rest := []) ⟨hx, hb, hml, hown, hts⟩ (c_X9_count l D z tM tS h a1 a2 a3 hh hh1 d0 d1 d2 d3 t9 t91 r9 r91 r92 r93 v (xs (x3 + 1).toNatClampNeg)  H.size) (cwV 1 hts gL_law_X9_count rfl rfl rfl (by decide +kernel) ⟨Nat.le_of_ble_eq_true rfl, Nat.le_of_ble_eq_true rfl⟩) (ev_ok tM tS) (e_go (ev_ok tM tS) hE hD hS hA (List.range 128) (gA1 len9)) hK hP hD (List.range 128) nd128 (gA1 len9) (va_recv hK hP (ci := 9) (q0 := 0) rfl rfl) rfl hl.1 rfl (Nat.le_of_ble_eq_true rfl) dL_law_669 ⟨Nat.le_of_ble_eq_true rfl, Nat.le_of_ble_eq_true rfl⟩) hK hP hD hS hA (fun r1 u1 H locs hw hP hD hS => ?_)
  have hw : r1 = f_X9_count v (xs (x3 + 1).toNatClampNeg) := hw
  have hP : va_P D vwCl (wX9 z h a1 a2 a3 hh hh1 d0 d1 d2 d3 t9 t91 r9 r91 r92 r93 v ++ wX10 z g g1 g2 g3 g4 g5 w) H := hP
  have hD : va_D (fun q : Nat => s.heap.size ≤ q) (wX9 z h a1 a2 a3 hh hh1 d0 d1 d2 d3 t9 t91 r9 r91 r92 r93 v ++ wX10 z g g1 g2 g3 g4 g5 w) := hD
  refine lv_aload_n hx hb dL_law_672 rfl (lv_at hl 1 rfl) ?_
  refine lv_aload_n hx hb dL_law_673 rfl (lv_at hl 3 rfl) ?_
  refine lv_iload_n hx hb dL_law_674 rfl (lv_at hl 0 rfl) ?_
  refine lv_iconst (v := 1) hx hb dL_law_675 (by decide) ?_
  refine lv_iadd hx hb dL_law_676 ?_
  refine va_sld hx hb hX hbl hbA hS h1 dL_law_677 ?_
  refine call_M (wa := wX9 z h a1 a2 a3 hh hh1 d0 d1 d2 d3 t9 t91 r9 r91 r92 r93 v) (wb := wX10 z g g1 g2 g3 g4 g5 w) len9 len10 (fun _ => len10) (rV (As := [.int (xs (x3 + 1).toNatClampNeg)]) (rest := [.int r1]) ⟨hx, hb, hml, hown, hts⟩ (c_X10_count l D z g g1 g2 g3 g4 g5 w (xs (x3 + 1).toNatClampNeg)  H.size) (cwV 1 hts gL_law_X10_count rfl rfl rfl (by decide +kernel) ⟨Nat.le_of_ble_eq_true rfl, Nat.le_of_ble_eq_true rfl⟩) e0_ok e_0 hK hP hD (List.range' 128 6) nd6 (gB1 len9 len10) (va_recv hK hP (ci := 10) (q0 := 128) rfl rfl) rfl hl.1 rfl (Nat.le_of_ble_eq_true rfl) dL_law_678 ⟨Nat.le_of_ble_eq_true rfl, Nat.le_of_ble_eq_true rfl⟩) hK hP hD hS hA (fun r2 u2 H locs hq hP hD hS => ?_)
  have hq : r2 = f_X10_count w (xs (x3 + 1).toNatClampNeg) := hq
  have hP : va_P D vwCl (wX9 z h a1 a2 a3 hh hh1 d0 d1 d2 d3 t9 t91 r9 r91 r92 r93 v ++ wX10 z g g1 g2 g3 g4 g5 w) H := hP
  have hD : va_D (fun q : Nat => s.heap.size ≤ q) (wX9 z h a1 a2 a3 hh hh1 d0 d1 d2 d3 t9 t91 r9 r91 r92 r93 v ++ wX10 z g g1 g2 g3 g4 g5 w) := hD
  have E := count_m R (xs (x3 + 1).toNatClampNeg)
  refine lv_icmp_eq (tgt := 686) hx hb dL_law_681 (by decide) (fun _ => ?_) (fun c0 => absurd (hw.trans (E.trans hq.symm)) c0)
  exact kk v w _ _ (rel_mono R (by omega)) hP hD hS
end LW
