/-! the law's cases -/
section LW
variable {p : Program} {l : Launch} {e : Env} {s : State} {m : MethodId} {below : List Frame} {meth : Method} {c : Code} {Q : State → Prop} {b L : Nat} {xs : Nat → Int32} {D : va_G} {z : ClassId × ClassId × ClassId} {tM tS : Nat} {h : Nat} {a1 a2 a3 : Nat → Nat} {hh hh1 : Nat} {d0 d1 d2 d3 : Nat → Nat} {t9 t91 r9 r91 r92 r93 : Nat} {g g1 g2 g3 g4 g5 : Nat} {N i : Nat} {x3 : Int32} {v : PV} {w : MV} {H : Heap} {locs : List Loc} {ls : Array Slot}
set_option maxRecDepth 100000 in
set_option maxHeartbeats 2000000 in
theorem law_drive (C : LX p s m meth c b L xs D z tM tS) (ex3 : x3 = nI i) (hi : i + 3 ≤ L) (hL : L ≤ 1536) (R : REL N v w) (hN : N + 40 < 2 ^ 30) (hP : va_P D vwCl (wX9 z h a1 a2 a3 hh hh1 d0 d1 d2 d3 t9 t91 r9 r91 r92 r93 v ++ wX10 z g g1 g2 g3 g4 g5 w) H) (hD : va_D (fun q : Nat => s.heap.size ≤ q) (wX9 z h a1 a2 a3 hh hh1 d0 d1 d2 d3 t9 t91 r9 r91 r92 r93 v ++ wX10 z g g1 g2 g3 g4 g5 w)) (hS : va_S (fun q : Nat => s.heap.size ≤ q) s.heap H locs) (hl : lv_has ls 4 [(3, .int x3), (2, .ref g), (1, .ref h), (0, .ref b)])
    (kk : ∀ (v1 : PV) (w1 : MV) (H1 : Heap) (locs1 : List Loc), REL (N + 41) v1 w1 → va_P D vwCl (wX9 z h a1 a2 a3 hh hh1 d0 d1 d2 d3 t9 t91 r9 r91 r92 r93 v1 ++ wX10 z g g1 g2 g3 g4 g5 w1) H1 → va_D (fun q : Nat => s.heap.size ≤ q) (wX9 z h a1 a2 a3 hh hh1 d0 d1 d2 d3 t9 t91 r9 r91 r92 r93 v1 ++ wX10 z g g1 g2 g3 g4 g5 w1) → va_S (fun q : Nat => s.heap.size ≤ q) s.heap H1 locs1 → W p l e room_1 s m #[Value.ref b] below meth c H1 locs1 134 1958 Q (F0 m 686 ls [])) : W p l e room_1 s m #[Value.ref b] below meth c H locs 134 1958 Q (F0 m 136 ls []) := by
  obtain ⟨hx, hb, hr, hml, hown, hts, hX, hbl, hK, hE⟩ := C
  have hA : ∀ q : Nat, s.heap.size ≤ q → (fun q : Nat => s.heap.size ≤ q) q := fun _ h => h
  have hbA : ¬ (fun q : Nat => s.heap.size ≤ q) b := Nat.not_le.mpr hbl
  have h1 : vp_in (x3 + 1) L := by rw [show x3 + 1 = nI (i + 1) from nadd ex3 (nlit 1)]; exact vp_in_nI (by omega) (by omega)
  have h2 : vp_in (x3 + 2) L := by rw [show x3 + 2 = nI (i + 2) from nadd ex3 (nlit 2)]; exact vp_in_nI (by omega) (by omega)
  refine lv_aload_n hx hb dL_law_136 rfl (lv_at hl 2 rfl) ?_
  refine lv_aload_n hx hb dL_law_137 rfl (lv_at hl 3 rfl) ?_
  refine lv_iload_n hx hb dL_law_138 rfl (lv_at hl 0 rfl) ?_
  refine lv_iconst (v := 1) hx hb dL_law_139 (by decide) ?_
  refine lv_iadd hx hb dL_law_140 ?_
  refine va_sld hx hb hX hbl hbA hS h1 dL_law_141 ?_
  refine call_X (w1 := fun zu => wX9 z h a1 a2 a3 hh hh1 d0 d1 d2 d3 t9 t91 r9 r91 r92 r93 zu) len9 len10 (fun _ => len9) (rV (As := [.int (xs (x3 + 1).toNatClampNeg)]) (rest := []) ⟨hx, hb, hml, hown, hts⟩ (c_X9_drive l D z tM tS h a1 a2 a3 hh hh1 d0 d1 d2 d3 t9 t91 r9 r91 r92 r93 v (xs (x3 + 1).toNatClampNeg) (rl_n R).1 (rl_n R).2 (rs_vp R.1) H.size) (cwV 1 hts gL_law_X9_drive rfl rfl rfl (by decide +kernel) ⟨Nat.le_of_ble_eq_true rfl, Nat.le_of_ble_eq_true rfl⟩) (ev_ok tM tS) (e_go (ev_ok tM tS) hE hD hS hA (List.range 128) (gA1 len9)) hK hP hD (List.range 128) nd128 (gA1 len9) (va_recv hK hP (ci := 9) (q0 := 0) rfl rfl) rfl hl.1 rfl (Nat.le_of_ble_eq_true rfl) dL_law_142 ⟨Nat.le_of_ble_eq_true rfl, Nat.le_of_ble_eq_true rfl⟩) hK hP hD hS hA (fun r1 u1 H locs hw hP hD hS => ?_)
  have hw : (r1, u1) = f_X9_drive v (xs (x3 + 1).toNatClampNeg) := hw
  have hP : va_P D vwCl (wX9 z h a1 a2 a3 hh hh1 d0 d1 d2 d3 t9 t91 r9 r91 r92 r93 u1 ++ wX10 z g g1 g2 g3 g4 g5 w) H := hP
  have hD : va_D (fun q : Nat => s.heap.size ≤ q) (wX9 z h a1 a2 a3 hh hh1 d0 d1 d2 d3 t9 t91 r9 r91 r92 r93 u1 ++ wX10 z g g1 g2 g3 g4 g5 w) := hD
  refine lv_aload_n hx hb dL_law_145 rfl (lv_at hl 1 rfl) ?_
  refine lv_aload_n hx hb dL_law_146 rfl (lv_at hl 3 rfl) ?_
  refine lv_iload_n hx hb dL_law_147 rfl (lv_at hl 0 rfl) ?_
  refine lv_iconst (v := 1) hx hb dL_law_148 (by decide) ?_
  refine lv_iadd hx hb dL_law_149 ?_
  refine va_sld hx hb hX hbl hbA hS h1 dL_law_150 ?_
  refine call_M (wa := wX9 z h a1 a2 a3 hh hh1 d0 d1 d2 d3 t9 t91 r9 r91 r92 r93 u1) (wb := wX10 z g g1 g2 g3 g4 g5 w) len9 len10 (fun _ => len10) (rV (As := [.int (xs (x3 + 1).toNatClampNeg)]) (rest := [.int r1]) ⟨hx, hb, hml, hown, hts⟩ (c_X10_drive l D z g g1 g2 g3 g4 g5 w (xs (x3 + 1).toNatClampNeg) (rm_k R).1 (rm_k R).2 H.size) (cwV 1 hts gL_law_X10_drive rfl rfl rfl (by decide +kernel) ⟨Nat.le_of_ble_eq_true rfl, Nat.le_of_ble_eq_true rfl⟩) e0_ok e_0 hK hP hD (List.range' 128 6) nd6 (gB1 len9 len10) (va_recv hK hP (ci := 10) (q0 := 128) rfl rfl) rfl hl.1 rfl (Nat.le_of_ble_eq_true rfl) dL_law_151 ⟨Nat.le_of_ble_eq_true rfl, Nat.le_of_ble_eq_true rfl⟩) hK hP hD hS hA (fun r2 u2 H locs hq hP hD hS => ?_)
  have hq : (r2, u2) = f_X10_drive w (xs (x3 + 1).toNatClampNeg) := hq
  have hP : va_P D vwCl (wX9 z h a1 a2 a3 hh hh1 d0 d1 d2 d3 t9 t91 r9 r91 r92 r93 u1 ++ wX10 z g g1 g2 g3 g4 g5 (mv3 w u2)) H := hP
  have hD : va_D (fun q : Nat => s.heap.size ≤ q) (wX9 z h a1 a2 a3 hh hh1 d0 d1 d2 d3 t9 t91 r9 r91 r92 r93 u1 ++ wX10 z g g1 g2 g3 g4 g5 (mv3 w u2)) := hD
  have E := drive_m R (xs (x3 + 1).toNatClampNeg)
  refine lv_icmp_eq (tgt := 686) hx hb dL_law_154 (by decide) (fun _ => ?_) (fun c0 => absurd ((pe hw).1.trans (E.1.trans (pe hq).1.symm)) c0)
  exact kk u1 (mv3 w u2) _ _ (by rw [(pe hw).2, (pe hq).2]; exact rel_mono E.2 (by omega)) hP hD hS
set_option maxRecDepth 100000 in
set_option maxHeartbeats 2000000 in
theorem law_moveReel (C : LX p s m meth c b L xs D z tM tS) (ex3 : x3 = nI i) (hi : i + 3 ≤ L) (hL : L ≤ 1536) (R : REL N v w) (hN : N + 40 < 2 ^ 30) (hP : va_P D vwCl (wX9 z h a1 a2 a3 hh hh1 d0 d1 d2 d3 t9 t91 r9 r91 r92 r93 v ++ wX10 z g g1 g2 g3 g4 g5 w) H) (hD : va_D (fun q : Nat => s.heap.size ≤ q) (wX9 z h a1 a2 a3 hh hh1 d0 d1 d2 d3 t9 t91 r9 r91 r92 r93 v ++ wX10 z g g1 g2 g3 g4 g5 w)) (hS : va_S (fun q : Nat => s.heap.size ≤ q) s.heap H locs) (hl : lv_has ls 4 [(3, .int x3), (2, .ref g), (1, .ref h), (0, .ref b)])
    (kk : ∀ (v1 : PV) (w1 : MV) (H1 : Heap) (locs1 : List Loc), REL (N + 41) v1 w1 → va_P D vwCl (wX9 z h a1 a2 a3 hh hh1 d0 d1 d2 d3 t9 t91 r9 r91 r92 r93 v1 ++ wX10 z g g1 g2 g3 g4 g5 w1) H1 → va_D (fun q : Nat => s.heap.size ≤ q) (wX9 z h a1 a2 a3 hh hh1 d0 d1 d2 d3 t9 t91 r9 r91 r92 r93 v1 ++ wX10 z g g1 g2 g3 g4 g5 w1) → va_S (fun q : Nat => s.heap.size ≤ q) s.heap H1 locs1 → W p l e room_1 s m #[Value.ref b] below meth c H1 locs1 134 1958 Q (F0 m 686 ls [])) : W p l e room_1 s m #[Value.ref b] below meth c H locs 134 1958 Q (F0 m 159 ls []) := by
  obtain ⟨hx, hb, hr, hml, hown, hts, hX, hbl, hK, hE⟩ := C
  have hA : ∀ q : Nat, s.heap.size ≤ q → (fun q : Nat => s.heap.size ≤ q) q := fun _ h => h
  have hbA : ¬ (fun q : Nat => s.heap.size ≤ q) b := Nat.not_le.mpr hbl
  have h1 : vp_in (x3 + 1) L := by rw [show x3 + 1 = nI (i + 1) from nadd ex3 (nlit 1)]; exact vp_in_nI (by omega) (by omega)
  have h2 : vp_in (x3 + 2) L := by rw [show x3 + 2 = nI (i + 2) from nadd ex3 (nlit 2)]; exact vp_in_nI (by omega) (by omega)
  refine lv_aload_n hx hb dL_law_159 rfl (lv_at hl 2 rfl) ?_
  refine lv_aload_n hx hb dL_law_160 rfl (lv_at hl 3 rfl) ?_
  refine lv_iload_n hx hb dL_law_161 rfl (lv_at hl 0 rfl) ?_
  refine lv_iconst (v := 1) hx hb dL_law_162 (by decide) ?_
  refine lv_iadd hx hb dL_law_163 ?_
  refine va_sld hx hb hX hbl hbA hS h1 dL_law_164 ?_
  refine lv_aload_n hx hb dL_law_165 rfl (lv_at hl 3 rfl) ?_
  refine lv_iload_n hx hb dL_law_166 rfl (lv_at hl 0 rfl) ?_
  refine lv_iconst (v := 2) hx hb dL_law_167 (by decide) ?_
  refine lv_iadd hx hb dL_law_168 ?_
  refine va_sld hx hb hX hbl hbA hS h2 dL_law_169 ?_
  refine lv_if_eq (tgt := 177) hx hb dL_law_170 (by decide) (fun c_170 => ?_) (fun c_170 => ?_)
  · refine lv_iconst (v := 0) hx hb dL_law_177 (by decide) ?_
    refine call_X (w1 := fun zu => wX9 z h a1 a2 a3 hh hh1 d0 d1 d2 d3 t9 t91 r9 r91 r92 r93 zu) len9 len10 (fun _ => len9) (rV (As := [.int (xs (x3 + 1).toNatClampNeg), .int 0]) (rest := []) ⟨hx, hb, hml, hown, hts⟩ (c_X9_moveReel l D z tM tS h a1 a2 a3 hh hh1 d0 d1 d2 d3 t9 t91 r9 r91 r92 r93 v (xs (x3 + 1).toNatClampNeg) 0 (rl_n R).1 (rl_n R).2 H.size) (cwV 2 hts gL_law_X9_moveReel rfl rfl rfl (by decide +kernel) ⟨Nat.le_of_ble_eq_true rfl, Nat.le_of_ble_eq_true rfl⟩) (ev_ok tM tS) (e_go (ev_ok tM tS) hE hD hS hA (List.range 128) (gA1 len9)) hK hP hD (List.range 128) nd128 (gA1 len9) (va_recv hK hP (ci := 9) (q0 := 0) rfl rfl) rfl hl.1 rfl (Nat.le_of_ble_eq_true rfl) dL_law_178 ⟨Nat.le_of_ble_eq_true rfl, Nat.le_of_ble_eq_true rfl⟩) hK hP hD hS hA (fun r1 u1 H locs hw hP hD hS => ?_)
    have hw : (r1, u1) = f_X9_moveReel v (xs (x3 + 1).toNatClampNeg) 0 := hw
    have hP : va_P D vwCl (wX9 z h a1 a2 a3 hh hh1 d0 d1 d2 d3 t9 t91 r9 r91 r92 r93 u1 ++ wX10 z g g1 g2 g3 g4 g5 w) H := hP
    have hD : va_D (fun q : Nat => s.heap.size ≤ q) (wX9 z h a1 a2 a3 hh hh1 d0 d1 d2 d3 t9 t91 r9 r91 r92 r93 u1 ++ wX10 z g g1 g2 g3 g4 g5 w) := hD
    refine lv_aload_n hx hb dL_law_181 rfl (lv_at hl 1 rfl) ?_
    refine lv_aload_n hx hb dL_law_182 rfl (lv_at hl 3 rfl) ?_
    refine lv_iload_n hx hb dL_law_183 rfl (lv_at hl 0 rfl) ?_
    refine lv_iconst (v := 1) hx hb dL_law_184 (by decide) ?_
    refine lv_iadd hx hb dL_law_185 ?_
    refine va_sld hx hb hX hbl hbA hS h1 dL_law_186 ?_
    refine lv_aload_n hx hb dL_law_187 rfl (lv_at hl 3 rfl) ?_
    refine lv_iload_n hx hb dL_law_188 rfl (lv_at hl 0 rfl) ?_
    refine lv_iconst (v := 2) hx hb dL_law_189 (by decide) ?_
    refine lv_iadd hx hb dL_law_190 ?_
    refine va_sld hx hb hX hbl hbA hS h2 dL_law_191 ?_
    refine lv_if_eq (tgt := 199) hx hb dL_law_192 (by decide) (fun _ => ?_) (fun c_192 => absurd c_170 c_192)
    refine lv_iconst (v := 0) hx hb dL_law_199 (by decide) ?_
    refine call_M (wa := wX9 z h a1 a2 a3 hh hh1 d0 d1 d2 d3 t9 t91 r9 r91 r92 r93 u1) (wb := wX10 z g g1 g2 g3 g4 g5 w) len9 len10 (fun _ => len10) (rV (As := [.int (xs (x3 + 1).toNatClampNeg), .int 0]) (rest := [.int r1]) ⟨hx, hb, hml, hown, hts⟩ (c_X10_moveReel l D z g g1 g2 g3 g4 g5 w (xs (x3 + 1).toNatClampNeg) 0 (rm_k R).1 (rm_k R).2 H.size) (cwV 2 hts gL_law_X10_moveReel rfl rfl rfl (by decide +kernel) ⟨Nat.le_of_ble_eq_true rfl, Nat.le_of_ble_eq_true rfl⟩) e0_ok e_0 hK hP hD (List.range' 128 6) nd6 (gB1 len9 len10) (va_recv hK hP (ci := 10) (q0 := 128) rfl rfl) rfl hl.1 rfl (Nat.le_of_ble_eq_true rfl) dL_law_200 ⟨Nat.le_of_ble_eq_true rfl, Nat.le_of_ble_eq_true rfl⟩) hK hP hD hS hA (fun r2 u2 H locs hq hP hD hS => ?_)
    have hq : (r2, u2) = f_X10_moveReel w (xs (x3 + 1).toNatClampNeg) 0 := hq
    have hP : va_P D vwCl (wX9 z h a1 a2 a3 hh hh1 d0 d1 d2 d3 t9 t91 r9 r91 r92 r93 u1 ++ wX10 z g g1 g2 g3 g4 g5 (mv3 w u2)) H := hP
    have hD : va_D (fun q : Nat => s.heap.size ≤ q) (wX9 z h a1 a2 a3 hh hh1 d0 d1 d2 d3 t9 t91 r9 r91 r92 r93 u1 ++ wX10 z g g1 g2 g3 g4 g5 (mv3 w u2)) := hD
    have E := moveReel_m R (xs (x3 + 1).toNatClampNeg) 0
    refine lv_icmp_eq (tgt := 686) hx hb dL_law_203 (by decide) (fun _ => ?_) (fun c0 => absurd ((pe hw).1.trans (E.1.trans (pe hq).1.symm)) c0)
    exact kk u1 (mv3 w u2) _ _ (by rw [(pe hw).2, (pe hq).2]; exact rel_mono E.2 (by omega)) hP hD hS
  · refine lv_iconst (v := 1) hx hb dL_law_173 (by decide) ?_
    refine lv_goto (tgt := 178) hx hb dL_law_174 (by decide) ?_
    refine call_X (w1 := fun zu => wX9 z h a1 a2 a3 hh hh1 d0 d1 d2 d3 t9 t91 r9 r91 r92 r93 zu) len9 len10 (fun _ => len9) (rV (As := [.int (xs (x3 + 1).toNatClampNeg), .int 1]) (rest := []) ⟨hx, hb, hml, hown, hts⟩ (c_X9_moveReel l D z tM tS h a1 a2 a3 hh hh1 d0 d1 d2 d3 t9 t91 r9 r91 r92 r93 v (xs (x3 + 1).toNatClampNeg) 1 (rl_n R).1 (rl_n R).2 H.size) (cwV 2 hts gL_law_X9_moveReel rfl rfl rfl (by decide +kernel) ⟨Nat.le_of_ble_eq_true rfl, Nat.le_of_ble_eq_true rfl⟩) (ev_ok tM tS) (e_go (ev_ok tM tS) hE hD hS hA (List.range 128) (gA1 len9)) hK hP hD (List.range 128) nd128 (gA1 len9) (va_recv hK hP (ci := 9) (q0 := 0) rfl rfl) rfl hl.1 rfl (Nat.le_of_ble_eq_true rfl) dL_law_178 ⟨Nat.le_of_ble_eq_true rfl, Nat.le_of_ble_eq_true rfl⟩) hK hP hD hS hA (fun r1 u1 H locs hw hP hD hS => ?_)
    have hw : (r1, u1) = f_X9_moveReel v (xs (x3 + 1).toNatClampNeg) 1 := hw
    have hP : va_P D vwCl (wX9 z h a1 a2 a3 hh hh1 d0 d1 d2 d3 t9 t91 r9 r91 r92 r93 u1 ++ wX10 z g g1 g2 g3 g4 g5 w) H := hP
    have hD : va_D (fun q : Nat => s.heap.size ≤ q) (wX9 z h a1 a2 a3 hh hh1 d0 d1 d2 d3 t9 t91 r9 r91 r92 r93 u1 ++ wX10 z g g1 g2 g3 g4 g5 w) := hD
    refine lv_aload_n hx hb dL_law_181 rfl (lv_at hl 1 rfl) ?_
    refine lv_aload_n hx hb dL_law_182 rfl (lv_at hl 3 rfl) ?_
    refine lv_iload_n hx hb dL_law_183 rfl (lv_at hl 0 rfl) ?_
    refine lv_iconst (v := 1) hx hb dL_law_184 (by decide) ?_
    refine lv_iadd hx hb dL_law_185 ?_
    refine va_sld hx hb hX hbl hbA hS h1 dL_law_186 ?_
    refine lv_aload_n hx hb dL_law_187 rfl (lv_at hl 3 rfl) ?_
    refine lv_iload_n hx hb dL_law_188 rfl (lv_at hl 0 rfl) ?_
    refine lv_iconst (v := 2) hx hb dL_law_189 (by decide) ?_
    refine lv_iadd hx hb dL_law_190 ?_
    refine va_sld hx hb hX hbl hbA hS h2 dL_law_191 ?_
    refine lv_if_eq (tgt := 199) hx hb dL_law_192 (by decide) (fun c_192 => absurd c_192 c_170) (fun _ => ?_)
    refine lv_iconst (v := 1) hx hb dL_law_195 (by decide) ?_
    refine lv_goto (tgt := 200) hx hb dL_law_196 (by decide) ?_
    refine call_M (wa := wX9 z h a1 a2 a3 hh hh1 d0 d1 d2 d3 t9 t91 r9 r91 r92 r93 u1) (wb := wX10 z g g1 g2 g3 g4 g5 w) len9 len10 (fun _ => len10) (rV (As := [.int (xs (x3 + 1).toNatClampNeg), .int 1]) (rest := [.int r1]) ⟨hx, hb, hml, hown, hts⟩ (c_X10_moveReel l D z g g1 g2 g3 g4 g5 w (xs (x3 + 1).toNatClampNeg) 1 (rm_k R).1 (rm_k R).2 H.size) (cwV 2 hts gL_law_X10_moveReel rfl rfl rfl (by decide +kernel) ⟨Nat.le_of_ble_eq_true rfl, Nat.le_of_ble_eq_true rfl⟩) e0_ok e_0 hK hP hD (List.range' 128 6) nd6 (gB1 len9 len10) (va_recv hK hP (ci := 10) (q0 := 128) rfl rfl) rfl hl.1 rfl (Nat.le_of_ble_eq_true rfl) dL_law_200 ⟨Nat.le_of_ble_eq_true rfl, Nat.le_of_ble_eq_true rfl⟩) hK hP hD hS hA (fun r2 u2 H locs hq hP hD hS => ?_)
    have hq : (r2, u2) = f_X10_moveReel w (xs (x3 + 1).toNatClampNeg) 1 := hq
    have hP : va_P D vwCl (wX9 z h a1 a2 a3 hh hh1 d0 d1 d2 d3 t9 t91 r9 r91 r92 r93 u1 ++ wX10 z g g1 g2 g3 g4 g5 (mv3 w u2)) H := hP
    have hD : va_D (fun q : Nat => s.heap.size ≤ q) (wX9 z h a1 a2 a3 hh hh1 d0 d1 d2 d3 t9 t91 r9 r91 r92 r93 u1 ++ wX10 z g g1 g2 g3 g4 g5 (mv3 w u2)) := hD
    have E := moveReel_m R (xs (x3 + 1).toNatClampNeg) 1
    refine lv_icmp_eq (tgt := 686) hx hb dL_law_203 (by decide) (fun _ => ?_) (fun c0 => absurd ((pe hw).1.trans (E.1.trans (pe hq).1.symm)) c0)
    exact kk u1 (mv3 w u2) _ _ (by rw [(pe hw).2, (pe hq).2]; exact rel_mono E.2 (by omega)) hP hD hS
set_option maxRecDepth 100000 in
set_option maxHeartbeats 2000000 in
theorem law_moveGenerator (C : LX p s m meth c b L xs D z tM tS) (ex3 : x3 = nI i) (hi : i + 3 ≤ L) (hL : L ≤ 1536) (R : REL N v w) (hN : N + 40 < 2 ^ 30) (hP : va_P D vwCl (wX9 z h a1 a2 a3 hh hh1 d0 d1 d2 d3 t9 t91 r9 r91 r92 r93 v ++ wX10 z g g1 g2 g3 g4 g5 w) H) (hD : va_D (fun q : Nat => s.heap.size ≤ q) (wX9 z h a1 a2 a3 hh hh1 d0 d1 d2 d3 t9 t91 r9 r91 r92 r93 v ++ wX10 z g g1 g2 g3 g4 g5 w)) (hS : va_S (fun q : Nat => s.heap.size ≤ q) s.heap H locs) (hl : lv_has ls 4 [(3, .int x3), (2, .ref g), (1, .ref h), (0, .ref b)])
    (kk : ∀ (v1 : PV) (w1 : MV) (H1 : Heap) (locs1 : List Loc), REL (N + 41) v1 w1 → va_P D vwCl (wX9 z h a1 a2 a3 hh hh1 d0 d1 d2 d3 t9 t91 r9 r91 r92 r93 v1 ++ wX10 z g g1 g2 g3 g4 g5 w1) H1 → va_D (fun q : Nat => s.heap.size ≤ q) (wX9 z h a1 a2 a3 hh hh1 d0 d1 d2 d3 t9 t91 r9 r91 r92 r93 v1 ++ wX10 z g g1 g2 g3 g4 g5 w1) → va_S (fun q : Nat => s.heap.size ≤ q) s.heap H1 locs1 → W p l e room_1 s m #[Value.ref b] below meth c H1 locs1 134 1958 Q (F0 m 686 ls [])) : W p l e room_1 s m #[Value.ref b] below meth c H locs 134 1958 Q (F0 m 208 ls []) := by
  obtain ⟨hx, hb, hr, hml, hown, hts, hX, hbl, hK, hE⟩ := C
  have hA : ∀ q : Nat, s.heap.size ≤ q → (fun q : Nat => s.heap.size ≤ q) q := fun _ h => h
  have hbA : ¬ (fun q : Nat => s.heap.size ≤ q) b := Nat.not_le.mpr hbl
  have h1 : vp_in (x3 + 1) L := by rw [show x3 + 1 = nI (i + 1) from nadd ex3 (nlit 1)]; exact vp_in_nI (by omega) (by omega)
  have h2 : vp_in (x3 + 2) L := by rw [show x3 + 2 = nI (i + 2) from nadd ex3 (nlit 2)]; exact vp_in_nI (by omega) (by omega)
  refine lv_aload_n hx hb dL_law_208 rfl (lv_at hl 2 rfl) ?_
  refine lv_aload_n hx hb dL_law_209 rfl (lv_at hl 3 rfl) ?_
  refine lv_iload_n hx hb dL_law_210 rfl (lv_at hl 0 rfl) ?_
  refine lv_iconst (v := 1) hx hb dL_law_211 (by decide) ?_
  refine lv_iadd hx hb dL_law_212 ?_
  refine va_sld hx hb hX hbl hbA hS h1 dL_law_213 ?_
  refine lv_aload_n hx hb dL_law_214 rfl (lv_at hl 3 rfl) ?_
  refine lv_iload_n hx hb dL_law_215 rfl (lv_at hl 0 rfl) ?_
  refine lv_iconst (v := 2) hx hb dL_law_216 (by decide) ?_
  refine lv_iadd hx hb dL_law_217 ?_
  refine va_sld hx hb hX hbl hbA hS h2 dL_law_218 ?_
  refine lv_if_eq (tgt := 226) hx hb dL_law_219 (by decide) (fun c_219 => ?_) (fun c_219 => ?_)
  · refine lv_iconst (v := 0) hx hb dL_law_226 (by decide) ?_
    refine call_X (w1 := fun zu => wX9 z h a1 a2 a3 hh hh1 d0 d1 d2 d3 t9 t91 r9 r91 r92 r93 zu) len9 len10 (fun _ => len9) (rV (As := [.int (xs (x3 + 1).toNatClampNeg), .int 0]) (rest := []) ⟨hx, hb, hml, hown, hts⟩ (c_X9_moveGenerator l D z tM tS h a1 a2 a3 hh hh1 d0 d1 d2 d3 t9 t91 r9 r91 r92 r93 v (xs (x3 + 1).toNatClampNeg) 0 (rl_n R).1 (rl_n R).2 H.size) (cwV 2 hts gL_law_X9_moveGenerator rfl rfl rfl (by decide +kernel) ⟨Nat.le_of_ble_eq_true rfl, Nat.le_of_ble_eq_true rfl⟩) (ev_ok tM tS) (e_go (ev_ok tM tS) hE hD hS hA (List.range 128) (gA1 len9)) hK hP hD (List.range 128) nd128 (gA1 len9) (va_recv hK hP (ci := 9) (q0 := 0) rfl rfl) rfl hl.1 rfl (Nat.le_of_ble_eq_true rfl) dL_law_227 ⟨Nat.le_of_ble_eq_true rfl, Nat.le_of_ble_eq_true rfl⟩) hK hP hD hS hA (fun r1 u1 H locs hw hP hD hS => ?_)
    have hw : (r1, u1) = f_X9_moveGenerator v (xs (x3 + 1).toNatClampNeg) 0 := hw
    have hP : va_P D vwCl (wX9 z h a1 a2 a3 hh hh1 d0 d1 d2 d3 t9 t91 r9 r91 r92 r93 u1 ++ wX10 z g g1 g2 g3 g4 g5 w) H := hP
    have hD : va_D (fun q : Nat => s.heap.size ≤ q) (wX9 z h a1 a2 a3 hh hh1 d0 d1 d2 d3 t9 t91 r9 r91 r92 r93 u1 ++ wX10 z g g1 g2 g3 g4 g5 w) := hD
    refine lv_aload_n hx hb dL_law_230 rfl (lv_at hl 1 rfl) ?_
    refine lv_aload_n hx hb dL_law_231 rfl (lv_at hl 3 rfl) ?_
    refine lv_iload_n hx hb dL_law_232 rfl (lv_at hl 0 rfl) ?_
    refine lv_iconst (v := 1) hx hb dL_law_233 (by decide) ?_
    refine lv_iadd hx hb dL_law_234 ?_
    refine va_sld hx hb hX hbl hbA hS h1 dL_law_235 ?_
    refine lv_aload_n hx hb dL_law_236 rfl (lv_at hl 3 rfl) ?_
    refine lv_iload_n hx hb dL_law_237 rfl (lv_at hl 0 rfl) ?_
    refine lv_iconst (v := 2) hx hb dL_law_238 (by decide) ?_
    refine lv_iadd hx hb dL_law_239 ?_
    refine va_sld hx hb hX hbl hbA hS h2 dL_law_240 ?_
    refine lv_if_eq (tgt := 248) hx hb dL_law_241 (by decide) (fun _ => ?_) (fun c_241 => absurd c_219 c_241)
    refine lv_iconst (v := 0) hx hb dL_law_248 (by decide) ?_
    refine call_M (wa := wX9 z h a1 a2 a3 hh hh1 d0 d1 d2 d3 t9 t91 r9 r91 r92 r93 u1) (wb := wX10 z g g1 g2 g3 g4 g5 w) len9 len10 (fun _ => len10) (rV (As := [.int (xs (x3 + 1).toNatClampNeg), .int 0]) (rest := [.int r1]) ⟨hx, hb, hml, hown, hts⟩ (c_X10_moveGenerator l D z g g1 g2 g3 g4 g5 w (xs (x3 + 1).toNatClampNeg) 0 (rm_k R).1 (rm_k R).2 H.size) (cwV 2 hts gL_law_X10_moveGenerator rfl rfl rfl (by decide +kernel) ⟨Nat.le_of_ble_eq_true rfl, Nat.le_of_ble_eq_true rfl⟩) e0_ok e_0 hK hP hD (List.range' 128 6) nd6 (gB1 len9 len10) (va_recv hK hP (ci := 10) (q0 := 128) rfl rfl) rfl hl.1 rfl (Nat.le_of_ble_eq_true rfl) dL_law_249 ⟨Nat.le_of_ble_eq_true rfl, Nat.le_of_ble_eq_true rfl⟩) hK hP hD hS hA (fun r2 u2 H locs hq hP hD hS => ?_)
    have hq : (r2, u2) = f_X10_moveGenerator w (xs (x3 + 1).toNatClampNeg) 0 := hq
    have hP : va_P D vwCl (wX9 z h a1 a2 a3 hh hh1 d0 d1 d2 d3 t9 t91 r9 r91 r92 r93 u1 ++ wX10 z g g1 g2 g3 g4 g5 (mv3 w u2)) H := hP
    have hD : va_D (fun q : Nat => s.heap.size ≤ q) (wX9 z h a1 a2 a3 hh hh1 d0 d1 d2 d3 t9 t91 r9 r91 r92 r93 u1 ++ wX10 z g g1 g2 g3 g4 g5 (mv3 w u2)) := hD
    have E := moveGenerator_m R (xs (x3 + 1).toNatClampNeg) 0
    refine lv_icmp_eq (tgt := 686) hx hb dL_law_252 (by decide) (fun _ => ?_) (fun c0 => absurd ((pe hw).1.trans (E.1.trans (pe hq).1.symm)) c0)
    exact kk u1 (mv3 w u2) _ _ (by rw [(pe hw).2, (pe hq).2]; exact rel_mono E.2 (by omega)) hP hD hS
  · refine lv_iconst (v := 1) hx hb dL_law_222 (by decide) ?_
    refine lv_goto (tgt := 227) hx hb dL_law_223 (by decide) ?_
    refine call_X (w1 := fun zu => wX9 z h a1 a2 a3 hh hh1 d0 d1 d2 d3 t9 t91 r9 r91 r92 r93 zu) len9 len10 (fun _ => len9) (rV (As := [.int (xs (x3 + 1).toNatClampNeg), .int 1]) (rest := []) ⟨hx, hb, hml, hown, hts⟩ (c_X9_moveGenerator l D z tM tS h a1 a2 a3 hh hh1 d0 d1 d2 d3 t9 t91 r9 r91 r92 r93 v (xs (x3 + 1).toNatClampNeg) 1 (rl_n R).1 (rl_n R).2 H.size) (cwV 2 hts gL_law_X9_moveGenerator rfl rfl rfl (by decide +kernel) ⟨Nat.le_of_ble_eq_true rfl, Nat.le_of_ble_eq_true rfl⟩) (ev_ok tM tS) (e_go (ev_ok tM tS) hE hD hS hA (List.range 128) (gA1 len9)) hK hP hD (List.range 128) nd128 (gA1 len9) (va_recv hK hP (ci := 9) (q0 := 0) rfl rfl) rfl hl.1 rfl (Nat.le_of_ble_eq_true rfl) dL_law_227 ⟨Nat.le_of_ble_eq_true rfl, Nat.le_of_ble_eq_true rfl⟩) hK hP hD hS hA (fun r1 u1 H locs hw hP hD hS => ?_)
    have hw : (r1, u1) = f_X9_moveGenerator v (xs (x3 + 1).toNatClampNeg) 1 := hw
    have hP : va_P D vwCl (wX9 z h a1 a2 a3 hh hh1 d0 d1 d2 d3 t9 t91 r9 r91 r92 r93 u1 ++ wX10 z g g1 g2 g3 g4 g5 w) H := hP
    have hD : va_D (fun q : Nat => s.heap.size ≤ q) (wX9 z h a1 a2 a3 hh hh1 d0 d1 d2 d3 t9 t91 r9 r91 r92 r93 u1 ++ wX10 z g g1 g2 g3 g4 g5 w) := hD
    refine lv_aload_n hx hb dL_law_230 rfl (lv_at hl 1 rfl) ?_
    refine lv_aload_n hx hb dL_law_231 rfl (lv_at hl 3 rfl) ?_
    refine lv_iload_n hx hb dL_law_232 rfl (lv_at hl 0 rfl) ?_
    refine lv_iconst (v := 1) hx hb dL_law_233 (by decide) ?_
    refine lv_iadd hx hb dL_law_234 ?_
    refine va_sld hx hb hX hbl hbA hS h1 dL_law_235 ?_
    refine lv_aload_n hx hb dL_law_236 rfl (lv_at hl 3 rfl) ?_
    refine lv_iload_n hx hb dL_law_237 rfl (lv_at hl 0 rfl) ?_
    refine lv_iconst (v := 2) hx hb dL_law_238 (by decide) ?_
    refine lv_iadd hx hb dL_law_239 ?_
    refine va_sld hx hb hX hbl hbA hS h2 dL_law_240 ?_
    refine lv_if_eq (tgt := 248) hx hb dL_law_241 (by decide) (fun c_241 => absurd c_241 c_219) (fun _ => ?_)
    refine lv_iconst (v := 1) hx hb dL_law_244 (by decide) ?_
    refine lv_goto (tgt := 249) hx hb dL_law_245 (by decide) ?_
    refine call_M (wa := wX9 z h a1 a2 a3 hh hh1 d0 d1 d2 d3 t9 t91 r9 r91 r92 r93 u1) (wb := wX10 z g g1 g2 g3 g4 g5 w) len9 len10 (fun _ => len10) (rV (As := [.int (xs (x3 + 1).toNatClampNeg), .int 1]) (rest := [.int r1]) ⟨hx, hb, hml, hown, hts⟩ (c_X10_moveGenerator l D z g g1 g2 g3 g4 g5 w (xs (x3 + 1).toNatClampNeg) 1 (rm_k R).1 (rm_k R).2 H.size) (cwV 2 hts gL_law_X10_moveGenerator rfl rfl rfl (by decide +kernel) ⟨Nat.le_of_ble_eq_true rfl, Nat.le_of_ble_eq_true rfl⟩) e0_ok e_0 hK hP hD (List.range' 128 6) nd6 (gB1 len9 len10) (va_recv hK hP (ci := 10) (q0 := 128) rfl rfl) rfl hl.1 rfl (Nat.le_of_ble_eq_true rfl) dL_law_249 ⟨Nat.le_of_ble_eq_true rfl, Nat.le_of_ble_eq_true rfl⟩) hK hP hD hS hA (fun r2 u2 H locs hq hP hD hS => ?_)
    have hq : (r2, u2) = f_X10_moveGenerator w (xs (x3 + 1).toNatClampNeg) 1 := hq
    have hP : va_P D vwCl (wX9 z h a1 a2 a3 hh hh1 d0 d1 d2 d3 t9 t91 r9 r91 r92 r93 u1 ++ wX10 z g g1 g2 g3 g4 g5 (mv3 w u2)) H := hP
    have hD : va_D (fun q : Nat => s.heap.size ≤ q) (wX9 z h a1 a2 a3 hh hh1 d0 d1 d2 d3 t9 t91 r9 r91 r92 r93 u1 ++ wX10 z g g1 g2 g3 g4 g5 (mv3 w u2)) := hD
    have E := moveGenerator_m R (xs (x3 + 1).toNatClampNeg) 1
    refine lv_icmp_eq (tgt := 686) hx hb dL_law_252 (by decide) (fun _ => ?_) (fun c0 => absurd ((pe hw).1.trans (E.1.trans (pe hq).1.symm)) c0)
    exact kk u1 (mv3 w u2) _ _ (by rw [(pe hw).2, (pe hq).2]; exact rel_mono E.2 (by omega)) hP hD hS
end LW
