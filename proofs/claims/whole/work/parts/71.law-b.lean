/-! the law's cases -/
section LW
variable {p : Program} {l : Launch} {e : Env} {s : State} {m : MethodId} {below : List Frame} {meth : Method} {c : Code} {Q : State → Prop} {b L : Nat} {xs : Nat → Int32} {D : va_G} {z : ClassId × ClassId × ClassId} {tM tS : Nat} {h : Nat} {a1 a2 a3 : Nat → Nat} {hh hh1 : Nat} {d0 d1 d2 d3 : Nat → Nat} {t9 t91 r9 r91 r92 r93 : Nat} {g g1 g2 g3 g4 g5 : Nat} {N i : Nat} {x3 : Int32} {v : PV} {w : MV} {H : Heap} {locs : List Loc} {ls : Array Slot}
set_option maxRecDepth 100000 in
set_option maxHeartbeats 2000000 in
theorem law_fuel (C : LX p s m meth c b L xs D z tM tS) (ex3 : x3 = nI i) (hi : i + 3 ≤ L) (hL : L ≤ 1536) (R : REL N v w) (hN : N + 40 < 2 ^ 30) (hP : va_P D vwCl (wX9 z h a1 a2 a3 hh hh1 d0 d1 d2 d3 t9 t91 r9 r91 r92 r93 v ++ wX10 z g g1 g2 g3 g4 g5 w) H) (hD : va_D (fun q : Nat => s.heap.size ≤ q) (wX9 z h a1 a2 a3 hh hh1 d0 d1 d2 d3 t9 t91 r9 r91 r92 r93 v ++ wX10 z g g1 g2 g3 g4 g5 w)) (hS : va_S (fun q : Nat => s.heap.size ≤ q) s.heap H locs) (hl : lv_has ls 4 [(3, .int x3), (2, .ref g), (1, .ref h), (0, .ref b)])
    (kk : ∀ (v1 : PV) (w1 : MV) (H1 : Heap) (locs1 : List Loc), REL (N + 41) v1 w1 → va_P D vwCl (wX9 z h a1 a2 a3 hh hh1 d0 d1 d2 d3 t9 t91 r9 r91 r92 r93 v1 ++ wX10 z g g1 g2 g3 g4 g5 w1) H1 → va_D (fun q : Nat => s.heap.size ≤ q) (wX9 z h a1 a2 a3 hh hh1 d0 d1 d2 d3 t9 t91 r9 r91 r92 r93 v1 ++ wX10 z g g1 g2 g3 g4 g5 w1) → va_S (fun q : Nat => s.heap.size ≤ q) s.heap H1 locs1 → W p l e room_1 s m #[Value.ref b] below meth c H1 locs1 134 1958 Q (F0 m 686 ls [])) : W p l e room_1 s m #[Value.ref b] below meth c H locs 134 1958 Q (F0 m 257 ls []) := by
  obtain ⟨hx, hb, hr, hml, hown, hts, hX, hbl, hK, hE⟩ := C
  have hA : ∀ q : Nat, s.heap.size ≤ q → (fun q : Nat => s.heap.size ≤ q) q := fun _ h => h
  have hbA : ¬ (fun q : Nat => s.heap.size ≤ q) b := Nat.not_le.mpr hbl
  have h1 : vp_in (x3 + 1) L := by rw [show x3 + 1 = nI (i + 1) from nadd ex3 (nlit 1)]; exact vp_in_nI (by omega) (by omega)
  have h2 : vp_in (x3 + 2) L := by rw [show x3 + 2 = nI (i + 2) from nadd ex3 (nlit 2)]; exact vp_in_nI (by omega) (by omega)
  refine lv_aload_n hx hb dL_law_257 rfl (lv_at hl 2 rfl) ?_
  refine lv_aload_n hx hb dL_law_258 rfl (lv_at hl 3 rfl) ?_
  refine lv_iload_n hx hb dL_law_259 rfl (lv_at hl 0 rfl) ?_
  refine lv_iconst (v := 1) hx hb dL_law_260 (by decide) ?_
  refine lv_iadd hx hb dL_law_261 ?_
  refine va_sld hx hb hX hbl hbA hS h1 dL_law_262 ?_
  refine lv_aload_n hx hb dL_law_263 rfl (lv_at hl 3 rfl) ?_
  refine lv_iload_n hx hb dL_law_264 rfl (lv_at hl 0 rfl) ?_
  refine lv_iconst (v := 2) hx hb dL_law_265 (by decide) ?_
  refine lv_iadd hx hb dL_law_266 ?_
  refine va_sld hx hb hX hbl hbA hS h2 dL_law_267 ?_
  refine call_X (w1 := fun zu => wX9 z h a1 a2 a3 hh hh1 d0 d1 d2 d3 t9 t91 r9 r91 r92 r93 zu) len9 len10 (fun _ => len9) (rV (As := [.int (xs (x3 + 1).toNatClampNeg), .int (xs (x3 + 2).toNatClampNeg)]) (rest := []) ⟨hx, hb, hml, hown, hts⟩ (c_X9_fuel l D z tM tS h a1 a2 a3 hh hh1 d0 d1 d2 d3 t9 t91 r9 r91 r92 r93 v (xs (x3 + 1).toNatClampNeg) (xs (x3 + 2).toNatClampNeg) (rl_n R).1 (rl_n R).2 H.size) (cwV 2 hts gL_law_X9_fuel rfl rfl rfl (by decide +kernel) ⟨Nat.le_of_ble_eq_true rfl, Nat.le_of_ble_eq_true rfl⟩) (ev_ok tM tS) (e_go (ev_ok tM tS) hE hD hS hA (List.range 128) (gA1 len9)) hK hP hD (List.range 128) nd128 (gA1 len9) (va_recv hK hP (ci := 9) (q0 := 0) rfl rfl) rfl hl.1 rfl (Nat.le_of_ble_eq_true rfl) dL_law_268 ⟨Nat.le_of_ble_eq_true rfl, Nat.le_of_ble_eq_true rfl⟩) hK hP hD hS hA (fun r1 u1 H locs hw hP hD hS => ?_)
  have hw : (r1, u1) = f_X9_fuel v (xs (x3 + 1).toNatClampNeg) (xs (x3 + 2).toNatClampNeg) := hw
  have hP : va_P D vwCl (wX9 z h a1 a2 a3 hh hh1 d0 d1 d2 d3 t9 t91 r9 r91 r92 r93 u1 ++ wX10 z g g1 g2 g3 g4 g5 w) H := hP
  have hD : va_D (fun q : Nat => s.heap.size ≤ q) (wX9 z h a1 a2 a3 hh hh1 d0 d1 d2 d3 t9 t91 r9 r91 r92 r93 u1 ++ wX10 z g g1 g2 g3 g4 g5 w) := hD
  refine lv_aload_n hx hb dL_law_271 rfl (lv_at hl 1 rfl) ?_
  refine lv_aload_n hx hb dL_law_272 rfl (lv_at hl 3 rfl) ?_
  refine lv_iload_n hx hb dL_law_273 rfl (lv_at hl 0 rfl) ?_
  refine lv_iconst (v := 1) hx hb dL_law_274 (by decide) ?_
  refine lv_iadd hx hb dL_law_275 ?_
  refine va_sld hx hb hX hbl hbA hS h1 dL_law_276 ?_
  refine lv_aload_n hx hb dL_law_277 rfl (lv_at hl 3 rfl) ?_
  refine lv_iload_n hx hb dL_law_278 rfl (lv_at hl 0 rfl) ?_
  refine lv_iconst (v := 2) hx hb dL_law_279 (by decide) ?_
  refine lv_iadd hx hb dL_law_280 ?_
  refine va_sld hx hb hX hbl hbA hS h2 dL_law_281 ?_
  refine call_M (wa := wX9 z h a1 a2 a3 hh hh1 d0 d1 d2 d3 t9 t91 r9 r91 r92 r93 u1) (wb := wX10 z g g1 g2 g3 g4 g5 w) len9 len10 (fun _ => len10) (rV (As := [.int (xs (x3 + 1).toNatClampNeg), .int (xs (x3 + 2).toNatClampNeg)]) (rest := [.int r1]) ⟨hx, hb, hml, hown, hts⟩ (c_X10_fuel l D z g g1 g2 g3 g4 g5 w (xs (x3 + 1).toNatClampNeg) (xs (x3 + 2).toNatClampNeg) (rm_k R).1 (rm_k R).2 H.size) (cwV 2 hts gL_law_X10_fuel rfl rfl rfl (by decide +kernel) ⟨Nat.le_of_ble_eq_true rfl, Nat.le_of_ble_eq_true rfl⟩) e0_ok e_0 hK hP hD (List.range' 128 6) nd6 (gB1 len9 len10) (va_recv hK hP (ci := 10) (q0 := 128) rfl rfl) rfl hl.1 rfl (Nat.le_of_ble_eq_true rfl) dL_law_282 ⟨Nat.le_of_ble_eq_true rfl, Nat.le_of_ble_eq_true rfl⟩) hK hP hD hS hA (fun r2 u2 H locs hq hP hD hS => ?_)
  have hq : (r2, u2) = f_X10_fuel w (xs (x3 + 1).toNatClampNeg) (xs (x3 + 2).toNatClampNeg) := hq
  have hP : va_P D vwCl (wX9 z h a1 a2 a3 hh hh1 d0 d1 d2 d3 t9 t91 r9 r91 r92 r93 u1 ++ wX10 z g g1 g2 g3 g4 g5 (mv3 w u2)) H := hP
  have hD : va_D (fun q : Nat => s.heap.size ≤ q) (wX9 z h a1 a2 a3 hh hh1 d0 d1 d2 d3 t9 t91 r9 r91 r92 r93 u1 ++ wX10 z g g1 g2 g3 g4 g5 (mv3 w u2)) := hD
  have E := fuel_m R (xs (x3 + 1).toNatClampNeg) (xs (x3 + 2).toNatClampNeg)
  refine lv_icmp_eq (tgt := 686) hx hb dL_law_285 (by decide) (fun _ => ?_) (fun c0 => absurd ((pe hw).1.trans (E.1.trans (pe hq).1.symm)) c0)
  exact kk u1 (mv3 w u2) _ _ (by rw [(pe hw).2, (pe hq).2]; exact rel_mono E.2 (by omega)) hP hD hS
set_option maxRecDepth 100000 in
set_option maxHeartbeats 2000000 in
theorem law_renew (C : LX p s m meth c b L xs D z tM tS) (ex3 : x3 = nI i) (hi : i + 3 ≤ L) (hL : L ≤ 1536) (R : REL N v w) (hN : N + 40 < 2 ^ 30) (hP : va_P D vwCl (wX9 z h a1 a2 a3 hh hh1 d0 d1 d2 d3 t9 t91 r9 r91 r92 r93 v ++ wX10 z g g1 g2 g3 g4 g5 w) H) (hD : va_D (fun q : Nat => s.heap.size ≤ q) (wX9 z h a1 a2 a3 hh hh1 d0 d1 d2 d3 t9 t91 r9 r91 r92 r93 v ++ wX10 z g g1 g2 g3 g4 g5 w)) (hS : va_S (fun q : Nat => s.heap.size ≤ q) s.heap H locs) (hl : lv_has ls 4 [(3, .int x3), (2, .ref g), (1, .ref h), (0, .ref b)])
    (kk : ∀ (v1 : PV) (w1 : MV) (H1 : Heap) (locs1 : List Loc), REL (N + 41) v1 w1 → va_P D vwCl (wX9 z h a1 a2 a3 hh hh1 d0 d1 d2 d3 t9 t91 r9 r91 r92 r93 v1 ++ wX10 z g g1 g2 g3 g4 g5 w1) H1 → va_D (fun q : Nat => s.heap.size ≤ q) (wX9 z h a1 a2 a3 hh hh1 d0 d1 d2 d3 t9 t91 r9 r91 r92 r93 v1 ++ wX10 z g g1 g2 g3 g4 g5 w1) → va_S (fun q : Nat => s.heap.size ≤ q) s.heap H1 locs1 → W p l e room_1 s m #[Value.ref b] below meth c H1 locs1 134 1958 Q (F0 m 686 ls [])) : W p l e room_1 s m #[Value.ref b] below meth c H locs 134 1958 Q (F0 m 290 ls []) := by
  obtain ⟨hx, hb, hr, hml, hown, hts, hX, hbl, hK, hE⟩ := C
  have hA : ∀ q : Nat, s.heap.size ≤ q → (fun q : Nat => s.heap.size ≤ q) q := fun _ h => h
  have hbA : ¬ (fun q : Nat => s.heap.size ≤ q) b := Nat.not_le.mpr hbl
  have h1 : vp_in (x3 + 1) L := by rw [show x3 + 1 = nI (i + 1) from nadd ex3 (nlit 1)]; exact vp_in_nI (by omega) (by omega)
  have h2 : vp_in (x3 + 2) L := by rw [show x3 + 2 = nI (i + 2) from nadd ex3 (nlit 2)]; exact vp_in_nI (by omega) (by omega)
  refine lv_aload_n hx hb dL_law_290 rfl (lv_at hl 2 rfl) ?_
  refine lv_aload_n hx hb dL_law_291 rfl (lv_at hl 3 rfl) ?_
  refine lv_iload_n hx hb dL_law_292 rfl (lv_at hl 0 rfl) ?_
  refine lv_iconst (v := 1) hx hb dL_law_293 (by decide) ?_
  refine lv_iadd hx hb dL_law_294 ?_
  refine va_sld hx hb hX hbl hbA hS h1 dL_law_295 ?_
  refine call_X (w1 := fun zu => wX9 z h a1 a2 a3 hh hh1 d0 d1 d2 d3 t9 t91 r9 r91 r92 r93 zu) len9 len10 (fun _ => len9) (rV (As := [.int (xs (x3 + 1).toNatClampNeg)]) (rest := []) ⟨hx, hb, hml, hown, hts⟩ (c_X9_renew l D z tM tS h a1 a2 a3 hh hh1 d0 d1 d2 d3 t9 t91 r9 r91 r92 r93 v (xs (x3 + 1).toNatClampNeg) (rl_n R).1 (rl_n R).2 H.size) (cwV 1 hts gL_law_X9_renew rfl rfl rfl (by decide +kernel) ⟨Nat.le_of_ble_eq_true rfl, Nat.le_of_ble_eq_true rfl⟩) (ev_ok tM tS) (e_go (ev_ok tM tS) hE hD hS hA (List.range 128) (gA1 len9)) hK hP hD (List.range 128) nd128 (gA1 len9) (va_recv hK hP (ci := 9) (q0 := 0) rfl rfl) rfl hl.1 rfl (Nat.le_of_ble_eq_true rfl) dL_law_296 ⟨Nat.le_of_ble_eq_true rfl, Nat.le_of_ble_eq_true rfl⟩) hK hP hD hS hA (fun r1 u1 H locs hw hP hD hS => ?_)
  have hw : (r1, u1) = f_X9_renew v (xs (x3 + 1).toNatClampNeg) := hw
  have hP : va_P D vwCl (wX9 z h a1 a2 a3 hh hh1 d0 d1 d2 d3 t9 t91 r9 r91 r92 r93 u1 ++ wX10 z g g1 g2 g3 g4 g5 w) H := hP
  have hD : va_D (fun q : Nat => s.heap.size ≤ q) (wX9 z h a1 a2 a3 hh hh1 d0 d1 d2 d3 t9 t91 r9 r91 r92 r93 u1 ++ wX10 z g g1 g2 g3 g4 g5 w) := hD
  refine lv_aload_n hx hb dL_law_299 rfl (lv_at hl 1 rfl) ?_
  refine lv_aload_n hx hb dL_law_300 rfl (lv_at hl 3 rfl) ?_
  refine lv_iload_n hx hb dL_law_301 rfl (lv_at hl 0 rfl) ?_
  refine lv_iconst (v := 1) hx hb dL_law_302 (by decide) ?_
  refine lv_iadd hx hb dL_law_303 ?_
  refine va_sld hx hb hX hbl hbA hS h1 dL_law_304 ?_
  refine call_M (wa := wX9 z h a1 a2 a3 hh hh1 d0 d1 d2 d3 t9 t91 r9 r91 r92 r93 u1) (wb := wX10 z g g1 g2 g3 g4 g5 w) len9 len10 (fun _ => len10) (rV (As := [.int (xs (x3 + 1).toNatClampNeg)]) (rest := [.int r1]) ⟨hx, hb, hml, hown, hts⟩ (c_X10_renew l D z g g1 g2 g3 g4 g5 w (xs (x3 + 1).toNatClampNeg) (rm_k R).1 (rm_k R).2 H.size) (cwV 1 hts gL_law_X10_renew rfl rfl rfl (by decide +kernel) ⟨Nat.le_of_ble_eq_true rfl, Nat.le_of_ble_eq_true rfl⟩) e0_ok e_0 hK hP hD (List.range' 128 6) nd6 (gB1 len9 len10) (va_recv hK hP (ci := 10) (q0 := 128) rfl rfl) rfl hl.1 rfl (Nat.le_of_ble_eq_true rfl) dL_law_305 ⟨Nat.le_of_ble_eq_true rfl, Nat.le_of_ble_eq_true rfl⟩) hK hP hD hS hA (fun r2 u2 H locs hq hP hD hS => ?_)
  have hq : (r2, u2) = f_X10_renew w (xs (x3 + 1).toNatClampNeg) := hq
  have hP : va_P D vwCl (wX9 z h a1 a2 a3 hh hh1 d0 d1 d2 d3 t9 t91 r9 r91 r92 r93 u1 ++ wX10 z g g1 g2 g3 g4 g5 (mv3 w u2)) H := hP
  have hD : va_D (fun q : Nat => s.heap.size ≤ q) (wX9 z h a1 a2 a3 hh hh1 d0 d1 d2 d3 t9 t91 r9 r91 r92 r93 u1 ++ wX10 z g g1 g2 g3 g4 g5 (mv3 w u2)) := hD
  have E := renew_m R (xs (x3 + 1).toNatClampNeg)
  refine lv_icmp_eq (tgt := 686) hx hb dL_law_308 (by decide) (fun _ => ?_) (fun c0 => absurd ((pe hw).1.trans (E.1.trans (pe hq).1.symm)) c0)
  exact kk u1 (mv3 w u2) _ _ (by rw [(pe hw).2, (pe hq).2]; exact rel_mono E.2 (by omega)) hP hD hS
set_option maxRecDepth 100000 in
set_option maxHeartbeats 2000000 in
theorem law_setPrice (C : LX p s m meth c b L xs D z tM tS) (ex3 : x3 = nI i) (hi : i + 3 ≤ L) (hL : L ≤ 1536) (R : REL N v w) (hN : N + 40 < 2 ^ 30) (hP : va_P D vwCl (wX9 z h a1 a2 a3 hh hh1 d0 d1 d2 d3 t9 t91 r9 r91 r92 r93 v ++ wX10 z g g1 g2 g3 g4 g5 w) H) (hD : va_D (fun q : Nat => s.heap.size ≤ q) (wX9 z h a1 a2 a3 hh hh1 d0 d1 d2 d3 t9 t91 r9 r91 r92 r93 v ++ wX10 z g g1 g2 g3 g4 g5 w)) (hS : va_S (fun q : Nat => s.heap.size ≤ q) s.heap H locs) (hl : lv_has ls 4 [(3, .int x3), (2, .ref g), (1, .ref h), (0, .ref b)])
    (kk : ∀ (v1 : PV) (w1 : MV) (H1 : Heap) (locs1 : List Loc), REL (N + 41) v1 w1 → va_P D vwCl (wX9 z h a1 a2 a3 hh hh1 d0 d1 d2 d3 t9 t91 r9 r91 r92 r93 v1 ++ wX10 z g g1 g2 g3 g4 g5 w1) H1 → va_D (fun q : Nat => s.heap.size ≤ q) (wX9 z h a1 a2 a3 hh hh1 d0 d1 d2 d3 t9 t91 r9 r91 r92 r93 v1 ++ wX10 z g g1 g2 g3 g4 g5 w1) → va_S (fun q : Nat => s.heap.size ≤ q) s.heap H1 locs1 → W p l e room_1 s m #[Value.ref b] below meth c H1 locs1 134 1958 Q (F0 m 686 ls [])) : W p l e room_1 s m #[Value.ref b] below meth c H locs 134 1958 Q (F0 m 313 ls []) := by
  obtain ⟨hx, hb, hr, hml, hown, hts, hX, hbl, hK, hE⟩ := C
  have hA : ∀ q : Nat, s.heap.size ≤ q → (fun q : Nat => s.heap.size ≤ q) q := fun _ h => h
  have hbA : ¬ (fun q : Nat => s.heap.size ≤ q) b := Nat.not_le.mpr hbl
  have h1 : vp_in (x3 + 1) L := by rw [show x3 + 1 = nI (i + 1) from nadd ex3 (nlit 1)]; exact vp_in_nI (by omega) (by omega)
  have h2 : vp_in (x3 + 2) L := by rw [show x3 + 2 = nI (i + 2) from nadd ex3 (nlit 2)]; exact vp_in_nI (by omega) (by omega)
  refine lv_aload_n hx hb dL_law_313 rfl (lv_at hl 2 rfl) ?_
  refine lv_aload_n hx hb dL_law_314 rfl (lv_at hl 3 rfl) ?_
  refine lv_iload_n hx hb dL_law_315 rfl (lv_at hl 0 rfl) ?_
  refine lv_iconst (v := 1) hx hb dL_law_316 (by decide) ?_
  refine lv_iadd hx hb dL_law_317 ?_
  refine va_sld hx hb hX hbl hbA hS h1 dL_law_318 ?_
  refine call_X (w1 := fun zu => wX9 z h a1 a2 a3 hh hh1 d0 d1 d2 d3 t9 t91 r9 r91 r92 r93 zu) len9 len10 (fun _ => len9) (rV (As := [.int (xs (x3 + 1).toNatClampNeg)]) (rest := []) ⟨hx, hb, hml, hown, hts⟩ (c_X9_setPrice l D z tM tS h a1 a2 a3 hh hh1 d0 d1 d2 d3 t9 t91 r9 r91 r92 r93 v (xs (x3 + 1).toNatClampNeg) (rl_n R).1 (rl_n R).2 H.size) (cwV 1 hts gL_law_X9_setPrice rfl rfl rfl (by decide +kernel) ⟨Nat.le_of_ble_eq_true rfl, Nat.le_of_ble_eq_true rfl⟩) (ev_ok tM tS) (e_go (ev_ok tM tS) hE hD hS hA (List.range 128) (gA1 len9)) hK hP hD (List.range 128) nd128 (gA1 len9) (va_recv hK hP (ci := 9) (q0 := 0) rfl rfl) rfl hl.1 rfl (Nat.le_of_ble_eq_true rfl) dL_law_319 ⟨Nat.le_of_ble_eq_true rfl, Nat.le_of_ble_eq_true rfl⟩) hK hP hD hS hA (fun r1 u1 H locs hw hP hD hS => ?_)
  have hw : (r1, u1) = f_X9_setPrice v (xs (x3 + 1).toNatClampNeg) := hw
  have hP : va_P D vwCl (wX9 z h a1 a2 a3 hh hh1 d0 d1 d2 d3 t9 t91 r9 r91 r92 r93 u1 ++ wX10 z g g1 g2 g3 g4 g5 w) H := hP
  have hD : va_D (fun q : Nat => s.heap.size ≤ q) (wX9 z h a1 a2 a3 hh hh1 d0 d1 d2 d3 t9 t91 r9 r91 r92 r93 u1 ++ wX10 z g g1 g2 g3 g4 g5 w) := hD
  refine lv_aload_n hx hb dL_law_322 rfl (lv_at hl 1 rfl) ?_
  refine lv_aload_n hx hb dL_law_323 rfl (lv_at hl 3 rfl) ?_
  refine lv_iload_n hx hb dL_law_324 rfl (lv_at hl 0 rfl) ?_
  refine lv_iconst (v := 1) hx hb dL_law_325 (by decide) ?_
  refine lv_iadd hx hb dL_law_326 ?_
  refine va_sld hx hb hX hbl hbA hS h1 dL_law_327 ?_
  refine call_M (wa := wX9 z h a1 a2 a3 hh hh1 d0 d1 d2 d3 t9 t91 r9 r91 r92 r93 u1) (wb := wX10 z g g1 g2 g3 g4 g5 w) len9 len10 (fun _ => len10) (rV (As := [.int (xs (x3 + 1).toNatClampNeg)]) (rest := [.int r1]) ⟨hx, hb, hml, hown, hts⟩ (c_X10_setPrice l D z g g1 g2 g3 g4 g5 w (xs (x3 + 1).toNatClampNeg) (rm_k R).1 (rm_k R).2 H.size) (cwV 1 hts gL_law_X10_setPrice rfl rfl rfl (by decide +kernel) ⟨Nat.le_of_ble_eq_true rfl, Nat.le_of_ble_eq_true rfl⟩) e0_ok e_0 hK hP hD (List.range' 128 6) nd6 (gB1 len9 len10) (va_recv hK hP (ci := 10) (q0 := 128) rfl rfl) rfl hl.1 rfl (Nat.le_of_ble_eq_true rfl) dL_law_328 ⟨Nat.le_of_ble_eq_true rfl, Nat.le_of_ble_eq_true rfl⟩) hK hP hD hS hA (fun r2 u2 H locs hq hP hD hS => ?_)
  have hq : (r2, u2) = f_X10_setPrice w (xs (x3 + 1).toNatClampNeg) := hq
  have hP : va_P D vwCl (wX9 z h a1 a2 a3 hh hh1 d0 d1 d2 d3 t9 t91 r9 r91 r92 r93 u1 ++ wX10 z g g1 g2 g3 g4 g5 (mv3 w u2)) H := hP
  have hD : va_D (fun q : Nat => s.heap.size ≤ q) (wX9 z h a1 a2 a3 hh hh1 d0 d1 d2 d3 t9 t91 r9 r91 r92 r93 u1 ++ wX10 z g g1 g2 g3 g4 g5 (mv3 w u2)) := hD
  have E := setPrice_m R (xs (x3 + 1).toNatClampNeg)
  refine lv_icmp_eq (tgt := 686) hx hb dL_law_331 (by decide) (fun _ => ?_) (fun c0 => absurd ((pe hw).1.trans (E.1.trans (pe hq).1.symm)) c0)
  exact kk u1 (mv3 w u2) _ _ (by rw [(pe hw).2, (pe hq).2]; exact rel_mono E.2 (by omega)) hP hD hS
set_option maxRecDepth 100000 in
set_option maxHeartbeats 2000000 in
theorem law_show (C : LX p s m meth c b L xs D z tM tS) (ex3 : x3 = nI i) (hi : i + 3 ≤ L) (hL : L ≤ 1536) (R : REL N v w) (hN : N + 40 < 2 ^ 30) (hP : va_P D vwCl (wX9 z h a1 a2 a3 hh hh1 d0 d1 d2 d3 t9 t91 r9 r91 r92 r93 v ++ wX10 z g g1 g2 g3 g4 g5 w) H) (hD : va_D (fun q : Nat => s.heap.size ≤ q) (wX9 z h a1 a2 a3 hh hh1 d0 d1 d2 d3 t9 t91 r9 r91 r92 r93 v ++ wX10 z g g1 g2 g3 g4 g5 w)) (hS : va_S (fun q : Nat => s.heap.size ≤ q) s.heap H locs) (hl : lv_has ls 4 [(3, .int x3), (2, .ref g), (1, .ref h), (0, .ref b)])
    (kk : ∀ (v1 : PV) (w1 : MV) (H1 : Heap) (locs1 : List Loc), REL (N + 41) v1 w1 → va_P D vwCl (wX9 z h a1 a2 a3 hh hh1 d0 d1 d2 d3 t9 t91 r9 r91 r92 r93 v1 ++ wX10 z g g1 g2 g3 g4 g5 w1) H1 → va_D (fun q : Nat => s.heap.size ≤ q) (wX9 z h a1 a2 a3 hh hh1 d0 d1 d2 d3 t9 t91 r9 r91 r92 r93 v1 ++ wX10 z g g1 g2 g3 g4 g5 w1) → va_S (fun q : Nat => s.heap.size ≤ q) s.heap H1 locs1 → W p l e room_1 s m #[Value.ref b] below meth c H1 locs1 134 1958 Q (F0 m 686 ls [])) : W p l e room_1 s m #[Value.ref b] below meth c H locs 134 1958 Q (F0 m 336 ls []) := by
  obtain ⟨hx, hb, hr, hml, hown, hts, hX, hbl, hK, hE⟩ := C
  have hA : ∀ q : Nat, s.heap.size ≤ q → (fun q : Nat => s.heap.size ≤ q) q := fun _ h => h
  have hbA : ¬ (fun q : Nat => s.heap.size ≤ q) b := Nat.not_le.mpr hbl
  have h1 : vp_in (x3 + 1) L := by rw [show x3 + 1 = nI (i + 1) from nadd ex3 (nlit 1)]; exact vp_in_nI (by omega) (by omega)
  have h2 : vp_in (x3 + 2) L := by rw [show x3 + 2 = nI (i + 2) from nadd ex3 (nlit 2)]; exact vp_in_nI (by omega) (by omega)
  refine lv_aload_n hx hb dL_law_336 rfl (lv_at hl 2 rfl) ?_
  refine lv_aload_n hx hb dL_law_337 rfl (lv_at hl 3 rfl) ?_
  refine lv_iload_n hx hb dL_law_338 rfl (lv_at hl 0 rfl) ?_
  refine lv_iconst (v := 1) hx hb dL_law_339 (by decide) ?_
  refine lv_iadd hx hb dL_law_340 ?_
  refine va_sld hx hb hX hbl hbA hS h1 dL_law_341 ?_
  refine call_X (w1 := fun zu => wX9 z h a1 a2 a3 hh hh1 d0 d1 d2 d3 t9 t91 r9 r91 r92 r93 zu) len9 len10 (fun _ => len9) (rV (As := [.int (xs (x3 + 1).toNatClampNeg)]) (rest := []) ⟨hx, hb, hml, hown, hts⟩ (c_X9_show l D z tM tS h a1 a2 a3 hh hh1 d0 d1 d2 d3 t9 t91 r9 r91 r92 r93 v (xs (x3 + 1).toNatClampNeg) (rl_n R).1 (rl_n R).2 (rr_wok R.1.1) H.size) (cwV 1 hts gL_law_X9_show rfl rfl rfl (by decide +kernel) ⟨Nat.le_of_ble_eq_true rfl, Nat.le_of_ble_eq_true rfl⟩) (ev_ok tM tS) (e_go (ev_ok tM tS) hE hD hS hA (List.range 128) (gA1 len9)) hK hP hD (List.range 128) nd128 (gA1 len9) (va_recv hK hP (ci := 9) (q0 := 0) rfl rfl) rfl hl.1 rfl (Nat.le_of_ble_eq_true rfl) dL_law_342 ⟨Nat.le_of_ble_eq_true rfl, Nat.le_of_ble_eq_true rfl⟩) hK hP hD hS hA (fun r1 u1 H locs hw hP hD hS => ?_)
  have hw : (r1, u1) = f_X9_show v (xs (x3 + 1).toNatClampNeg) := hw
  have hP : va_P D vwCl (wX9 z h a1 a2 a3 hh hh1 d0 d1 d2 d3 t9 t91 r9 r91 r92 r93 u1 ++ wX10 z g g1 g2 g3 g4 g5 w) H := hP
  have hD : va_D (fun q : Nat => s.heap.size ≤ q) (wX9 z h a1 a2 a3 hh hh1 d0 d1 d2 d3 t9 t91 r9 r91 r92 r93 u1 ++ wX10 z g g1 g2 g3 g4 g5 w) := hD
  refine lv_aload_n hx hb dL_law_345 rfl (lv_at hl 1 rfl) ?_
  refine lv_aload_n hx hb dL_law_346 rfl (lv_at hl 3 rfl) ?_
  refine lv_iload_n hx hb dL_law_347 rfl (lv_at hl 0 rfl) ?_
  refine lv_iconst (v := 1) hx hb dL_law_348 (by decide) ?_
  refine lv_iadd hx hb dL_law_349 ?_
  refine va_sld hx hb hX hbl hbA hS h1 dL_law_350 ?_
  refine call_M (wa := wX9 z h a1 a2 a3 hh hh1 d0 d1 d2 d3 t9 t91 r9 r91 r92 r93 u1) (wb := wX10 z g g1 g2 g3 g4 g5 w) len9 len10 (fun _ => len10) (rV (As := [.int (xs (x3 + 1).toNatClampNeg)]) (rest := [.int r1]) ⟨hx, hb, hml, hown, hts⟩ (c_X10_show l D z g g1 g2 g3 g4 g5 w (xs (x3 + 1).toNatClampNeg) (rm_k R).1 (rm_k R).2 (rr_wm R.1.1) H.size) (cwV 1 hts gL_law_X10_show rfl rfl rfl (by decide +kernel) ⟨Nat.le_of_ble_eq_true rfl, Nat.le_of_ble_eq_true rfl⟩) e0_ok e_0 hK hP hD (List.range' 128 6) nd6 (gB1 len9 len10) (va_recv hK hP (ci := 10) (q0 := 128) rfl rfl) rfl hl.1 rfl (Nat.le_of_ble_eq_true rfl) dL_law_351 ⟨Nat.le_of_ble_eq_true rfl, Nat.le_of_ble_eq_true rfl⟩) hK hP hD hS hA (fun r2 u2 H locs hq hP hD hS => ?_)
  have hq : (r2, u2) = f_X10_show w (xs (x3 + 1).toNatClampNeg) := hq
  have hP : va_P D vwCl (wX9 z h a1 a2 a3 hh hh1 d0 d1 d2 d3 t9 t91 r9 r91 r92 r93 u1 ++ wX10 z g g1 g2 g3 g4 g5 (mv3 w u2)) H := hP
  have hD : va_D (fun q : Nat => s.heap.size ≤ q) (wX9 z h a1 a2 a3 hh hh1 d0 d1 d2 d3 t9 t91 r9 r91 r92 r93 u1 ++ wX10 z g g1 g2 g3 g4 g5 (mv3 w u2)) := hD
  have E := show_m R (by omega) (xs (x3 + 1).toNatClampNeg)
  refine lv_icmp_eq (tgt := 686) hx hb dL_law_354 (by decide) (fun _ => ?_) (fun c0 => absurd ((pe hw).1.trans (E.1.trans (pe hq).1.symm)) c0)
  exact kk u1 (mv3 w u2) _ _ (by rw [(pe hw).2, (pe hq).2]; exact rel_mono E.2 (by omega)) hP hD hS
set_option maxRecDepth 100000 in
set_option maxHeartbeats 2000000 in
theorem law_nextDay (C : LX p s m meth c b L xs D z tM tS) (ex3 : x3 = nI i) (hi : i + 3 ≤ L) (hL : L ≤ 1536) (R : REL N v w) (hN : N + 40 < 2 ^ 30) (hP : va_P D vwCl (wX9 z h a1 a2 a3 hh hh1 d0 d1 d2 d3 t9 t91 r9 r91 r92 r93 v ++ wX10 z g g1 g2 g3 g4 g5 w) H) (hD : va_D (fun q : Nat => s.heap.size ≤ q) (wX9 z h a1 a2 a3 hh hh1 d0 d1 d2 d3 t9 t91 r9 r91 r92 r93 v ++ wX10 z g g1 g2 g3 g4 g5 w)) (hS : va_S (fun q : Nat => s.heap.size ≤ q) s.heap H locs) (hl : lv_has ls 4 [(3, .int x3), (2, .ref g), (1, .ref h), (0, .ref b)])
    (kk : ∀ (v1 : PV) (w1 : MV) (H1 : Heap) (locs1 : List Loc), REL (N + 41) v1 w1 → va_P D vwCl (wX9 z h a1 a2 a3 hh hh1 d0 d1 d2 d3 t9 t91 r9 r91 r92 r93 v1 ++ wX10 z g g1 g2 g3 g4 g5 w1) H1 → va_D (fun q : Nat => s.heap.size ≤ q) (wX9 z h a1 a2 a3 hh hh1 d0 d1 d2 d3 t9 t91 r9 r91 r92 r93 v1 ++ wX10 z g g1 g2 g3 g4 g5 w1) → va_S (fun q : Nat => s.heap.size ≤ q) s.heap H1 locs1 → W p l e room_1 s m #[Value.ref b] below meth c H1 locs1 134 1958 Q (F0 m 686 ls [])) : W p l e room_1 s m #[Value.ref b] below meth c H locs 134 1958 Q (F0 m 359 ls []) := by
  obtain ⟨hx, hb, hr, hml, hown, hts, hX, hbl, hK, hE⟩ := C
  have hA : ∀ q : Nat, s.heap.size ≤ q → (fun q : Nat => s.heap.size ≤ q) q := fun _ h => h
  have hbA : ¬ (fun q : Nat => s.heap.size ≤ q) b := Nat.not_le.mpr hbl
  have h1 : vp_in (x3 + 1) L := by rw [show x3 + 1 = nI (i + 1) from nadd ex3 (nlit 1)]; exact vp_in_nI (by omega) (by omega)
  have h2 : vp_in (x3 + 2) L := by rw [show x3 + 2 = nI (i + 2) from nadd ex3 (nlit 2)]; exact vp_in_nI (by omega) (by omega)
  refine lv_aload_n hx hb dL_law_359 rfl (lv_at hl 2 rfl) ?_
  refine call_X (w1 := fun zu => wX9 z h a1 a2 a3 hh hh1 d0 d1 d2 d3 t9 t91 r9 r91 r92 r93 zu) len9 len10 (fun _ => len9) (rV (As := []) (rest := []) ⟨hx, hb, hml, hown, hts⟩ (c_X9_nextDay l D z tM tS h a1 a2 a3 hh hh1 d0 d1 d2 d3 t9 t91 r9 r91 r92 r93 v  (rl_n R).1 (rl_n R).2 H.size) (cwV 0 hts gL_law_X9_nextDay rfl rfl rfl (by decide +kernel) ⟨Nat.le_of_ble_eq_true rfl, Nat.le_of_ble_eq_true rfl⟩) (ev_ok tM tS) (e_go (ev_ok tM tS) hE hD hS hA (List.range 128) (gA1 len9)) hK hP hD (List.range 128) nd128 (gA1 len9) (va_recv hK hP (ci := 9) (q0 := 0) rfl rfl) rfl hl.1 rfl (Nat.le_of_ble_eq_true rfl) dL_law_360 ⟨Nat.le_of_ble_eq_true rfl, Nat.le_of_ble_eq_true rfl⟩) hK hP hD hS hA (fun r1 u1 H locs hw hP hD hS => ?_)
  have hw : (r1, u1) = f_X9_nextDay v := hw
  have hP : va_P D vwCl (wX9 z h a1 a2 a3 hh hh1 d0 d1 d2 d3 t9 t91 r9 r91 r92 r93 u1 ++ wX10 z g g1 g2 g3 g4 g5 w) H := hP
  have hD : va_D (fun q : Nat => s.heap.size ≤ q) (wX9 z h a1 a2 a3 hh hh1 d0 d1 d2 d3 t9 t91 r9 r91 r92 r93 u1 ++ wX10 z g g1 g2 g3 g4 g5 w) := hD
  refine lv_aload_n hx hb dL_law_363 rfl (lv_at hl 1 rfl) ?_
  refine call_M (wa := wX9 z h a1 a2 a3 hh hh1 d0 d1 d2 d3 t9 t91 r9 r91 r92 r93 u1) (wb := wX10 z g g1 g2 g3 g4 g5 w) len9 len10 (fun _ => len10) (rV (As := []) (rest := [.int r1]) ⟨hx, hb, hml, hown, hts⟩ (c_X10_nextDay l D z g g1 g2 g3 g4 g5 w  (rm_k R).1 (rm_k R).2 H.size) (cwV 0 hts gL_law_X10_nextDay rfl rfl rfl (by decide +kernel) ⟨Nat.le_of_ble_eq_true rfl, Nat.le_of_ble_eq_true rfl⟩) e0_ok e_0 hK hP hD (List.range' 128 6) nd6 (gB1 len9 len10) (va_recv hK hP (ci := 10) (q0 := 128) rfl rfl) rfl hl.1 rfl (Nat.le_of_ble_eq_true rfl) dL_law_364 ⟨Nat.le_of_ble_eq_true rfl, Nat.le_of_ble_eq_true rfl⟩) hK hP hD hS hA (fun r2 u2 H locs hq hP hD hS => ?_)
  have hq : (r2, u2) = f_X10_nextDay w := hq
  have hP : va_P D vwCl (wX9 z h a1 a2 a3 hh hh1 d0 d1 d2 d3 t9 t91 r9 r91 r92 r93 u1 ++ wX10 z g g1 g2 g3 g4 g5 (mv3 w u2)) H := hP
  have hD : va_D (fun q : Nat => s.heap.size ≤ q) (wX9 z h a1 a2 a3 hh hh1 d0 d1 d2 d3 t9 t91 r9 r91 r92 r93 u1 ++ wX10 z g g1 g2 g3 g4 g5 (mv3 w u2)) := hD
  have E := nextDay_m R
  refine lv_icmp_eq (tgt := 686) hx hb dL_law_367 (by decide) (fun _ => ?_) (fun c0 => absurd ((pe hw).1.trans (E.1.trans (pe hq).1.symm)) c0)
  exact kk u1 (mv3 w u2) _ _ (by rw [(pe hw).2, (pe hq).2]; exact rel_mono E.2 (by omega)) hP hD hS
set_option maxRecDepth 100000 in
set_option maxHeartbeats 2000000 in
theorem law_type (C : LX p s m meth c b L xs D z tM tS) (ex3 : x3 = nI i) (hi : i + 3 ≤ L) (hL : L ≤ 1536) (R : REL N v w) (hN : N + 40 < 2 ^ 30) (hP : va_P D vwCl (wX9 z h a1 a2 a3 hh hh1 d0 d1 d2 d3 t9 t91 r9 r91 r92 r93 v ++ wX10 z g g1 g2 g3 g4 g5 w) H) (hD : va_D (fun q : Nat => s.heap.size ≤ q) (wX9 z h a1 a2 a3 hh hh1 d0 d1 d2 d3 t9 t91 r9 r91 r92 r93 v ++ wX10 z g g1 g2 g3 g4 g5 w)) (hS : va_S (fun q : Nat => s.heap.size ≤ q) s.heap H locs) (hl : lv_has ls 4 [(3, .int x3), (2, .ref g), (1, .ref h), (0, .ref b)])
    (kk : ∀ (v1 : PV) (w1 : MV) (H1 : Heap) (locs1 : List Loc), REL (N + 41) v1 w1 → va_P D vwCl (wX9 z h a1 a2 a3 hh hh1 d0 d1 d2 d3 t9 t91 r9 r91 r92 r93 v1 ++ wX10 z g g1 g2 g3 g4 g5 w1) H1 → va_D (fun q : Nat => s.heap.size ≤ q) (wX9 z h a1 a2 a3 hh hh1 d0 d1 d2 d3 t9 t91 r9 r91 r92 r93 v1 ++ wX10 z g g1 g2 g3 g4 g5 w1) → va_S (fun q : Nat => s.heap.size ≤ q) s.heap H1 locs1 → W p l e room_1 s m #[Value.ref b] below meth c H1 locs1 134 1958 Q (F0 m 686 ls [])) : W p l e room_1 s m #[Value.ref b] below meth c H locs 134 1958 Q (F0 m 372 ls []) := by
  obtain ⟨hx, hb, hr, hml, hown, hts, hX, hbl, hK, hE⟩ := C
  have hA : ∀ q : Nat, s.heap.size ≤ q → (fun q : Nat => s.heap.size ≤ q) q := fun _ h => h
  have hbA : ¬ (fun q : Nat => s.heap.size ≤ q) b := Nat.not_le.mpr hbl
  have h1 : vp_in (x3 + 1) L := by rw [show x3 + 1 = nI (i + 1) from nadd ex3 (nlit 1)]; exact vp_in_nI (by omega) (by omega)
  have h2 : vp_in (x3 + 2) L := by rw [show x3 + 2 = nI (i + 2) from nadd ex3 (nlit 2)]; exact vp_in_nI (by omega) (by omega)
  refine lv_aload_n hx hb dL_law_372 rfl (lv_at hl 2 rfl) ?_
  refine lv_aload_n hx hb dL_law_373 rfl (lv_at hl 3 rfl) ?_
  refine lv_iload_n hx hb dL_law_374 rfl (lv_at hl 0 rfl) ?_
  refine lv_iconst (v := 1) hx hb dL_law_375 (by decide) ?_
  refine lv_iadd hx hb dL_law_376 ?_
  refine va_sld hx hb hX hbl hbA hS h1 dL_law_377 ?_
  refine lv_i2c (v := (vp_nar .char (xs (x3 + 1).toNatClampNeg))) hx hb dL_law_378 rfl ?_
  refine call_X (w1 := fun zu => wX9 z h a1 a2 a3 hh hh1 d0 d1 d2 d3 t9 t91 r9 r91 r92 r93 zu) len9 len10 (fun _ => len9) (rV (As := [.int (vp_nar .char (xs (x3 + 1).toNatClampNeg))]) (rest := []) ⟨hx, hb, hml, hown, hts⟩ (c_X9_type l D z tM tS h a1 a2 a3 hh hh1 d0 d1 d2 d3 t9 t91 r9 r91 r92 r93 v (vp_nar .char (xs (x3 + 1).toNatClampNeg)) (rl_t R).1 (rl_t R).2 H.size) (cwV 1 hts gL_law_X9_type rfl rfl rfl (by decide +kernel) ⟨Nat.le_of_ble_eq_true rfl, Nat.le_of_ble_eq_true rfl⟩) (ev_ok tM tS) (e_go (ev_ok tM tS) hE hD hS hA (List.range 128) (gA1 len9)) hK hP hD (List.range 128) nd128 (gA1 len9) (va_recv hK hP (ci := 9) (q0 := 0) rfl rfl) rfl hl.1 rfl (Nat.le_of_ble_eq_true rfl) dL_law_379 ⟨Nat.le_of_ble_eq_true rfl, Nat.le_of_ble_eq_true rfl⟩) hK hP hD hS hA (fun r1 u1 H locs hw hP hD hS => ?_)
  have hw : (r1, u1) = f_X9_type v (vp_nar .char (xs (x3 + 1).toNatClampNeg)) := hw
  have hP : va_P D vwCl (wX9 z h a1 a2 a3 hh hh1 d0 d1 d2 d3 t9 t91 r9 r91 r92 r93 u1 ++ wX10 z g g1 g2 g3 g4 g5 w) H := hP
  have hD : va_D (fun q : Nat => s.heap.size ≤ q) (wX9 z h a1 a2 a3 hh hh1 d0 d1 d2 d3 t9 t91 r9 r91 r92 r93 u1 ++ wX10 z g g1 g2 g3 g4 g5 w) := hD
  refine lv_aload_n hx hb dL_law_382 rfl (lv_at hl 1 rfl) ?_
  refine lv_aload_n hx hb dL_law_383 rfl (lv_at hl 3 rfl) ?_
  refine lv_iload_n hx hb dL_law_384 rfl (lv_at hl 0 rfl) ?_
  refine lv_iconst (v := 1) hx hb dL_law_385 (by decide) ?_
  refine lv_iadd hx hb dL_law_386 ?_
  refine va_sld hx hb hX hbl hbA hS h1 dL_law_387 ?_
  refine lv_i2c (v := (vp_nar .char (xs (x3 + 1).toNatClampNeg))) hx hb dL_law_388 rfl ?_
  refine call_M (wa := wX9 z h a1 a2 a3 hh hh1 d0 d1 d2 d3 t9 t91 r9 r91 r92 r93 u1) (wb := wX10 z g g1 g2 g3 g4 g5 w) len9 len10 (fun _ => len10) (rV (As := [.int (vp_nar .char (xs (x3 + 1).toNatClampNeg))]) (rest := [.int r1]) ⟨hx, hb, hml, hown, hts⟩ (c_X10_type l D z g g1 g2 g3 g4 g5 w (vp_nar .char (xs (x3 + 1).toNatClampNeg)) (rm_y R).1 (rm_y R).2 H.size) (cwV 1 hts gL_law_X10_type rfl rfl rfl (by decide +kernel) ⟨Nat.le_of_ble_eq_true rfl, Nat.le_of_ble_eq_true rfl⟩) e0_ok e_0 hK hP hD (List.range' 128 6) nd6 (gB1 len9 len10) (va_recv hK hP (ci := 10) (q0 := 128) rfl rfl) rfl hl.1 rfl (Nat.le_of_ble_eq_true rfl) dL_law_389 ⟨Nat.le_of_ble_eq_true rfl, Nat.le_of_ble_eq_true rfl⟩) hK hP hD hS hA (fun r2 u2 H locs hq hP hD hS => ?_)
  have hq : (r2, u2) = f_X10_type w (vp_nar .char (xs (x3 + 1).toNatClampNeg)) := hq
  have hP : va_P D vwCl (wX9 z h a1 a2 a3 hh hh1 d0 d1 d2 d3 t9 t91 r9 r91 r92 r93 u1 ++ wX10 z g g1 g2 g3 g4 g5 (w.1, w.2.1, w.2.2.1, w.2.2.2.1, w.2.2.2.2.1, w.2.2.2.2.2.1, u2.1, u2.2, w.2.2.2.2.2.2.2.2)) H := hP
  have hD : va_D (fun q : Nat => s.heap.size ≤ q) (wX9 z h a1 a2 a3 hh hh1 d0 d1 d2 d3 t9 t91 r9 r91 r92 r93 u1 ++ wX10 z g g1 g2 g3 g4 g5 (w.1, w.2.1, w.2.2.1, w.2.2.2.1, w.2.2.2.2.1, w.2.2.2.2.2.1, u2.1, u2.2, w.2.2.2.2.2.2.2.2)) := hD
  have E := type_m R (vp_nar .char (xs (x3 + 1).toNatClampNeg)) (nar_nar _)
  refine lv_icmp_eq (tgt := 686) hx hb dL_law_392 (by decide) (fun _ => ?_) (fun c0 => absurd ((pe hw).1.trans (E.1.trans (pe hq).1.symm)) c0)
  exact kk u1 (w.1, w.2.1, w.2.2.1, w.2.2.2.1, w.2.2.2.2.1, w.2.2.2.2.2.1, u2.1, u2.2, w.2.2.2.2.2.2.2.2) _ _ (by rw [(pe hw).2, (pe hq).2]; exact rel_mono E.2 (by omega)) hP hD hS
set_option maxRecDepth 100000 in
set_option maxHeartbeats 2000000 in
theorem law_clearText (C : LX p s m meth c b L xs D z tM tS) (ex3 : x3 = nI i) (hi : i + 3 ≤ L) (hL : L ≤ 1536) (R : REL N v w) (hN : N + 40 < 2 ^ 30) (hP : va_P D vwCl (wX9 z h a1 a2 a3 hh hh1 d0 d1 d2 d3 t9 t91 r9 r91 r92 r93 v ++ wX10 z g g1 g2 g3 g4 g5 w) H) (hD : va_D (fun q : Nat => s.heap.size ≤ q) (wX9 z h a1 a2 a3 hh hh1 d0 d1 d2 d3 t9 t91 r9 r91 r92 r93 v ++ wX10 z g g1 g2 g3 g4 g5 w)) (hS : va_S (fun q : Nat => s.heap.size ≤ q) s.heap H locs) (hl : lv_has ls 4 [(3, .int x3), (2, .ref g), (1, .ref h), (0, .ref b)])
    (kk : ∀ (v1 : PV) (w1 : MV) (H1 : Heap) (locs1 : List Loc), REL (N + 41) v1 w1 → va_P D vwCl (wX9 z h a1 a2 a3 hh hh1 d0 d1 d2 d3 t9 t91 r9 r91 r92 r93 v1 ++ wX10 z g g1 g2 g3 g4 g5 w1) H1 → va_D (fun q : Nat => s.heap.size ≤ q) (wX9 z h a1 a2 a3 hh hh1 d0 d1 d2 d3 t9 t91 r9 r91 r92 r93 v1 ++ wX10 z g g1 g2 g3 g4 g5 w1) → va_S (fun q : Nat => s.heap.size ≤ q) s.heap H1 locs1 → W p l e room_1 s m #[Value.ref b] below meth c H1 locs1 134 1958 Q (F0 m 686 ls [])) : W p l e room_1 s m #[Value.ref b] below meth c H locs 134 1958 Q (F0 m 397 ls []) := by
  obtain ⟨hx, hb, hr, hml, hown, hts, hX, hbl, hK, hE⟩ := C
  have hA : ∀ q : Nat, s.heap.size ≤ q → (fun q : Nat => s.heap.size ≤ q) q := fun _ h => h
  have hbA : ¬ (fun q : Nat => s.heap.size ≤ q) b := Nat.not_le.mpr hbl
  have h1 : vp_in (x3 + 1) L := by rw [show x3 + 1 = nI (i + 1) from nadd ex3 (nlit 1)]; exact vp_in_nI (by omega) (by omega)
  have h2 : vp_in (x3 + 2) L := by rw [show x3 + 2 = nI (i + 2) from nadd ex3 (nlit 2)]; exact vp_in_nI (by omega) (by omega)
  refine lv_aload_n hx hb dL_law_397 rfl (lv_at hl 2 rfl) ?_
  refine call_X (w1 := fun zu => wX9 z h a1 a2 a3 hh hh1 d0 d1 d2 d3 t9 t91 r9 r91 r92 r93 zu) len9 len10 (fun _ => len9) (rV (As := []) (rest := []) ⟨hx, hb, hml, hown, hts⟩ (c_X9_clearText l D z tM tS h a1 a2 a3 hh hh1 d0 d1 d2 d3 t9 t91 r9 r91 r92 r93 v   H.size) (cwV 0 hts gL_law_X9_clearText rfl rfl rfl (by decide +kernel) ⟨Nat.le_of_ble_eq_true rfl, Nat.le_of_ble_eq_true rfl⟩) (ev_ok tM tS) (e_go (ev_ok tM tS) hE hD hS hA (List.range 128) (gA1 len9)) hK hP hD (List.range 128) nd128 (gA1 len9) (va_recv hK hP (ci := 9) (q0 := 0) rfl rfl) rfl hl.1 rfl (Nat.le_of_ble_eq_true rfl) dL_law_398 ⟨Nat.le_of_ble_eq_true rfl, Nat.le_of_ble_eq_true rfl⟩) hK hP hD hS hA (fun r1 u1 H locs hw hP hD hS => ?_)
  have hw : (r1, u1) = f_X9_clearText v := hw
  have hP : va_P D vwCl (wX9 z h a1 a2 a3 hh hh1 d0 d1 d2 d3 t9 t91 r9 r91 r92 r93 u1 ++ wX10 z g g1 g2 g3 g4 g5 w) H := hP
  have hD : va_D (fun q : Nat => s.heap.size ≤ q) (wX9 z h a1 a2 a3 hh hh1 d0 d1 d2 d3 t9 t91 r9 r91 r92 r93 u1 ++ wX10 z g g1 g2 g3 g4 g5 w) := hD
  refine lv_aload_n hx hb dL_law_401 rfl (lv_at hl 1 rfl) ?_
  refine call_M (wa := wX9 z h a1 a2 a3 hh hh1 d0 d1 d2 d3 t9 t91 r9 r91 r92 r93 u1) (wb := wX10 z g g1 g2 g3 g4 g5 w) len9 len10 (fun _ => len10) (rV (As := []) (rest := [.int r1]) ⟨hx, hb, hml, hown, hts⟩ (c_X10_clearText l D z g g1 g2 g3 g4 g5 w   H.size) (cwV 0 hts gL_law_X10_clearText rfl rfl rfl (by decide +kernel) ⟨Nat.le_of_ble_eq_true rfl, Nat.le_of_ble_eq_true rfl⟩) e0_ok e_0 hK hP hD (List.range' 128 6) nd6 (gB1 len9 len10) (va_recv hK hP (ci := 10) (q0 := 128) rfl rfl) rfl hl.1 rfl (Nat.le_of_ble_eq_true rfl) dL_law_402 ⟨Nat.le_of_ble_eq_true rfl, Nat.le_of_ble_eq_true rfl⟩) hK hP hD hS hA (fun r2 u2 H locs hq hP hD hS => ?_)
  have hq : (r2, u2) = f_X10_clearText w := hq
  have hP : va_P D vwCl (wX9 z h a1 a2 a3 hh hh1 d0 d1 d2 d3 t9 t91 r9 r91 r92 r93 u1 ++ wX10 z g g1 g2 g3 g4 g5 (w.1, w.2.1, w.2.2.1, w.2.2.2.1, w.2.2.2.2.1, w.2.2.2.2.2.1, w.2.2.2.2.2.2.1, u2, w.2.2.2.2.2.2.2.2)) H := hP
  have hD : va_D (fun q : Nat => s.heap.size ≤ q) (wX9 z h a1 a2 a3 hh hh1 d0 d1 d2 d3 t9 t91 r9 r91 r92 r93 u1 ++ wX10 z g g1 g2 g3 g4 g5 (w.1, w.2.1, w.2.2.1, w.2.2.2.1, w.2.2.2.2.1, w.2.2.2.2.2.1, w.2.2.2.2.2.2.1, u2, w.2.2.2.2.2.2.2.2)) := hD
  have E := clearText_m R
  refine lv_icmp_eq (tgt := 686) hx hb dL_law_405 (by decide) (fun _ => ?_) (fun c0 => absurd ((pe hw).1.trans (E.1.trans (pe hq).1.symm)) c0)
  exact kk u1 (w.1, w.2.1, w.2.2.1, w.2.2.2.1, w.2.2.2.2.1, w.2.2.2.2.2.1, w.2.2.2.2.2.2.1, u2, w.2.2.2.2.2.2.2.2) _ _ (by rw [(pe hw).2, (pe hq).2]; exact rel_mono E.2 (by omega)) hP hD hS
set_option maxRecDepth 100000 in
set_option maxHeartbeats 2000000 in
theorem law_perform (C : LX p s m meth c b L xs D z tM tS) (ex3 : x3 = nI i) (hi : i + 3 ≤ L) (hL : L ≤ 1536) (R : REL N v w) (hN : N + 40 < 2 ^ 30) (hP : va_P D vwCl (wX9 z h a1 a2 a3 hh hh1 d0 d1 d2 d3 t9 t91 r9 r91 r92 r93 v ++ wX10 z g g1 g2 g3 g4 g5 w) H) (hD : va_D (fun q : Nat => s.heap.size ≤ q) (wX9 z h a1 a2 a3 hh hh1 d0 d1 d2 d3 t9 t91 r9 r91 r92 r93 v ++ wX10 z g g1 g2 g3 g4 g5 w)) (hS : va_S (fun q : Nat => s.heap.size ≤ q) s.heap H locs) (hl : lv_has ls 4 [(3, .int x3), (2, .ref g), (1, .ref h), (0, .ref b)])
    (kk : ∀ (v1 : PV) (w1 : MV) (H1 : Heap) (locs1 : List Loc), REL (N + 41) v1 w1 → va_P D vwCl (wX9 z h a1 a2 a3 hh hh1 d0 d1 d2 d3 t9 t91 r9 r91 r92 r93 v1 ++ wX10 z g g1 g2 g3 g4 g5 w1) H1 → va_D (fun q : Nat => s.heap.size ≤ q) (wX9 z h a1 a2 a3 hh hh1 d0 d1 d2 d3 t9 t91 r9 r91 r92 r93 v1 ++ wX10 z g g1 g2 g3 g4 g5 w1) → va_S (fun q : Nat => s.heap.size ≤ q) s.heap H1 locs1 → W p l e room_1 s m #[Value.ref b] below meth c H1 locs1 134 1958 Q (F0 m 686 ls [])) : W p l e room_1 s m #[Value.ref b] below meth c H locs 134 1958 Q (F0 m 410 ls []) := by
  obtain ⟨hx, hb, hr, hml, hown, hts, hX, hbl, hK, hE⟩ := C
  have hA : ∀ q : Nat, s.heap.size ≤ q → (fun q : Nat => s.heap.size ≤ q) q := fun _ h => h
  have hbA : ¬ (fun q : Nat => s.heap.size ≤ q) b := Nat.not_le.mpr hbl
  have h1 : vp_in (x3 + 1) L := by rw [show x3 + 1 = nI (i + 1) from nadd ex3 (nlit 1)]; exact vp_in_nI (by omega) (by omega)
  have h2 : vp_in (x3 + 2) L := by rw [show x3 + 2 = nI (i + 2) from nadd ex3 (nlit 2)]; exact vp_in_nI (by omega) (by omega)
  refine lv_aload_n hx hb dL_law_410 rfl (lv_at hl 2 rfl) ?_
  refine call_X (w1 := fun zu => wX9 z h a1 a2 a3 hh hh1 d0 d1 d2 d3 t9 t91 r9 r91 r92 r93 zu) len9 len10 (fun _ => len9) (rV (As := []) (rest := []) ⟨hx, hb, hml, hown, hts⟩ (c_X9_perform l D z tM tS h a1 a2 a3 hh hh1 d0 d1 d2 d3 t9 t91 r9 r91 r92 r93 v  (rl_n R).1 (rl_n R).2 (rs_vp R.1) (rr_wok R.1.1) (rl_tt R) H.size) (cwV 0 hts gL_law_X9_perform rfl rfl rfl (by decide +kernel) ⟨Nat.le_of_ble_eq_true rfl, Nat.le_of_ble_eq_true rfl⟩) (ev_ok tM tS) (e_go (ev_ok tM tS) hE hD hS hA (List.range 128) (gA1 len9)) hK hP hD (List.range 128) nd128 (gA1 len9) (va_recv hK hP (ci := 9) (q0 := 0) rfl rfl) rfl hl.1 rfl (Nat.le_of_ble_eq_true rfl) dL_law_411 ⟨Nat.le_of_ble_eq_true rfl, Nat.le_of_ble_eq_true rfl⟩) hK hP hD hS hA (fun r1 u1 H locs hw hP hD hS => ?_)
  have hw : (r1, u1) = f_X9_perform v := hw
  have hP : va_P D vwCl (wX9 z h a1 a2 a3 hh hh1 d0 d1 d2 d3 t9 t91 r9 r91 r92 r93 u1 ++ wX10 z g g1 g2 g3 g4 g5 w) H := hP
  have hD : va_D (fun q : Nat => s.heap.size ≤ q) (wX9 z h a1 a2 a3 hh hh1 d0 d1 d2 d3 t9 t91 r9 r91 r92 r93 u1 ++ wX10 z g g1 g2 g3 g4 g5 w) := hD
  refine lv_aload_n hx hb dL_law_414 rfl (lv_at hl 1 rfl) ?_
  refine call_M (wa := wX9 z h a1 a2 a3 hh hh1 d0 d1 d2 d3 t9 t91 r9 r91 r92 r93 u1) (wb := wX10 z g g1 g2 g3 g4 g5 w) len9 len10 (fun _ => len10) (rV (As := []) (rest := [.int r1]) ⟨hx, hb, hml, hown, hts⟩ (c_X10_perform l D z g g1 g2 g3 g4 g5 w  (rm_k R).1 (rm_k R).2 (rm_yt R) (rs_si R.1) H.size) (cwV 0 hts gL_law_X10_perform rfl rfl rfl (by decide +kernel) ⟨Nat.le_of_ble_eq_true rfl, Nat.le_of_ble_eq_true rfl⟩) e0_ok e_0 hK hP hD (List.range' 128 6) nd6 (gB1 len9 len10) (va_recv hK hP (ci := 10) (q0 := 128) rfl rfl) rfl hl.1 rfl (Nat.le_of_ble_eq_true rfl) dL_law_415 ⟨Nat.le_of_ble_eq_true rfl, Nat.le_of_ble_eq_true rfl⟩) hK hP hD hS hA (fun r2 u2 H locs hq hP hD hS => ?_)
  have hq : (r2, u2) = f_X10_perform w := hq
  have hP : va_P D vwCl (wX9 z h a1 a2 a3 hh hh1 d0 d1 d2 d3 t9 t91 r9 r91 r92 r93 u1 ++ wX10 z g g1 g2 g3 g4 g5 (mvP w u2)) H := hP
  have hD : va_D (fun q : Nat => s.heap.size ≤ q) (wX9 z h a1 a2 a3 hh hh1 d0 d1 d2 d3 t9 t91 r9 r91 r92 r93 u1 ++ wX10 z g g1 g2 g3 g4 g5 (mvP w u2)) := hD
  have E := perform_m R (by omega)
  refine lv_icmp_eq (tgt := 686) hx hb dL_law_418 (by decide) (fun _ => ?_) (fun c0 => absurd ((pe hw).1.trans (E.1.trans (pe hq).1.symm)) c0)
  exact kk u1 (mvP w u2) _ _ (by rw [(pe hw).2, (pe hq).2]; exact rel_mono E.2 (by omega)) hP hD hS
end LW
