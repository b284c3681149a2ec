/-! the script, read by a method of the law -/
def ES (b L : Nat) (xs : Nat → Int32) (A : Nat → Prop) (U : State) : Prop := va_X b L xs U U.heap ∧ ¬ A b
theorem es_lt {b L : Nat} {xs : Nat → Int32} {U : State} {H : Heap} (h : va_X b L xs U H) : b < H.size := by
  obtain ⟨scr, h1, _⟩ := h
  exact (Array.getElem?_eq_some_iff.mp h1).1
theorem es_ok (b L : Nat) (xs : Nat → Int32) : EOK (ES b L xs) := by
  refine ⟨fun A U g mk a q => ⟨va_X.moved (u := U) (U := U.calling g mk a) (Vm.Alike.refl U.vm) q.1, q.2⟩, fun A B s U H locs q hS hAB hU hW => ⟨?_, fun z => q.2 (hAB b z)⟩⟩
  exact va_X.moved hW.alike (q.1.kept (H1 := U.heap) (by rw [hU]; exact hS.2.1 b (es_lt q.1) q.2))
set_option maxRecDepth 100000 in
set_option maxHeartbeats 1000000 in
theorem c_L_cell (l : Launch) (D : va_G) (z : ClassId × ClassId × ClassId) (b L : Nat) (xs : Nat → Int32) (k : Nat) (hL : L ≤ 260) (hk : k < 60) (sz : Nat) : CI l yL_cell wsL_cell 0 0 0 0 [.ref b, .int (nI k)] D z ([]) sz (ES b L xs) (fun (_ : Int32) (_ : Unit) => True) (fun _ => []) := by
  refine met_i cL_cell 2 (some .int) (by decide) rfl (Nat.le_of_ble_eq_true rfl) ?_
  intro p e s m args below meth c R Q hx hb hr hml hts hown hlocks hin hRf hRl hRc hRs hc0 hs0 A H hA hP hK hD hS hE hQ ls hl
  have hl : lv_has ls 2 [(0, .ref b), (1, .int (nI k))] := hl
  have hP : va_P D vwCl [] H := hP
  have hD : va_D A [] := hD
  obtain ⟨hX, hbA⟩ := hE
  have hbl := es_lt hX
  have q : Int32.ofNat L ≤ nI k ↔ L ≤ k := nle_iff (nrf L) (nrf k) (by omega) (by omega)
  refine lv_iload_n hx hb dL_cell_0 rfl (lv_at hl 1 rfl) ?_
  refine lv_aload_n hx hb dL_cell_1 rfl (lv_at hl 0 rfl) ?_
  refine va_slen hx hb hX hbl hbA hS dL_cell_2 ?_
  refine lv_icmp_ge (tgt := 12) hx hb dL_cell_3 (by decide) (fun c_1 => ?_) (fun c_1 => ?_)
  · refine lv_sipush (v := 7919) hx hb dL_cell_12 (by decide) ?_
    refine lv_iload_n hx hb dL_cell_15 rfl (lv_at hl 1 rfl) ?_
    refine lv_iconst (v := 3) hx hb dL_cell_16 (by decide) ?_
    refine lv_iadd hx hb dL_cell_17 ?_
    refine lv_imul hx hb dL_cell_18 ?_
    refine lv_iload_n hx hb dL_cell_19 rfl (lv_at hl 1 rfl) ?_
    refine lv_bipush (v := 11) hx hb dL_cell_20 (by decide) ?_
    refine lv_iadd hx hb dL_cell_22 ?_
    refine lv_imul hx hb dL_cell_23 ?_
    subst hQ
    exact ret_i () hx hb hr hK hP hD hS rfl trivial dL_cell_24 hlocks
  · have hkL : k < L := Nat.lt_of_not_le (fun z => c_1 (q.mpr z))
    refine lv_aload_n hx hb dL_cell_6 rfl (lv_at hl 0 rfl) ?_
    refine lv_iload_n hx hb dL_cell_7 rfl (lv_at hl 1 rfl) ?_
    refine va_sld hx hb hX hbl hbA hS (vp_in_nI hkL (by omega)) dL_cell_8 ?_
    refine lv_goto (tgt := 24) hx hb dL_cell_9 (by decide) ?_
    subst hQ
    exact ret_i () hx hb hr hK hP hD hS rfl trivial dL_cell_24 hlocks
theorem low5 (x : Int32) : ∃ j, j < 5 ∧ f_L_low x 5 = nI j := by
  obtain ⟨n, hn, e⟩ := pk_andE x (m := 2147483647) 31 (by decide)
  unfold f_L_low
  exact ⟨n % 5, Nat.mod_lt _ (by decide), nrem e (nlit 5) hn (by decide) (by decide)⟩
theorem l_pre {N : Nat} {v : PV} (h : INV N v) : (v.2.2.2.1.2.1 = nI v.2.2.2.1.2.1.toNatClampNeg ∧ v.2.2.2.1.2.1.toNatClampNeg < 4) ∧ vp_in v.1.2.2.2.2.2.1 5 ∧ WOK v.1.1 ∧ MOK v.1.1 ∧ v.1.2.2.2.1.2.toInt ≤ 6 := ⟨inv_n h, si_van h.1, ri_wok h.1.1, ri_mok h.1.1, si_log h.1⟩
/-! a new object -/
theorem in_reels : (∀ j, j < 10 → f_X4_init.1 j = -1 ∧ f_X4_init.2.1 j = nI (8 + j) ∧ f_X4_init.2.2.1 j = 0 ∧ f_X4_init.2.2.2.1 j = 0 ∧ f_X4_init.2.2.2.2 j = 0) ∧ ∀ j, j < 2 → f_X2_init.1 j = -1 ∧ f_X2_init.2 j = 60 := by decide +kernel
theorem si_init : SI 0 f_X7_init := by
  obtain ⟨b1, b2⟩ := in_reels
  refine ⟨fun j hj => ?_, fun j hj => ?_, ⟨0, 0, by omega, by omega, rfl, rfl, fun x hx => ⟨0, 0, by omega, by omega, rfl, rfl⟩, rfl, fun _ => 0, fun i hi => absurd hi (by omega), fun i hi => absurd hi (by omega)⟩, ⟨rfl, rfl⟩, ⟨0, by omega, rfl⟩, 4, by omega, by omega, rfl⟩
  · obtain ⟨e0, e1, e2, e3, e4⟩ := b1 j hj
    show PR (f_X4_init.1 j) ∧ (∃ w, w < 40 ∧ f_X4_init.2.2.1 j = nI w) ∧ (∃ p, p < 32 ∧ f_X4_init.2.2.2.2 j = nI p) ∧ ∃ m s, m + s = 8 + j ∧ f_X4_init.2.1 j = nI m ∧ f_X4_init.2.2.2.1 j = nI s ∧ (¬ f_X4_init.1 j = -2 → 3 ≤ m)
    rw [e0, e1, e2, e3, e4]
    exact ⟨pr_van, ⟨0, by omega, rfl⟩, ⟨0, by omega, rfl⟩, 8 + j, 0, by omega, rfl, rfl, fun _ => by omega⟩
  · obtain ⟨e0, e1⟩ := b2 j hj
    show PR (f_X2_init.1 j) ∧ ∃ m, m ≤ 500 ∧ f_X2_init.2 j = nI m
    rw [e0, e1]
    exact ⟨pr_van, 60, by omega, rfl⟩
theorem inv_init : INV 0 f_X9_init := ⟨si_init, 0, 0, by omega, by omega, rfl, rfl⟩
section LW
variable {p : Program} {l : Launch} {e : Env} {s : State} {m : MethodId} {below : List Frame} {meth : Method} {c : Code} {Q : State → Prop} {b L : Nat} {xs : Nat → Int32} {D : va_G} {z : ClassId × ClassId × ClassId} {tM tS : Nat} {h : Nat} {a1 a2 a3 : Nat → Nat} {hh hh1 : Nat} {d0 d1 d2 d3 : Nat → Nat} {t9 t91 r9 r91 r92 r93 : Nat}
/-- what holds in the law all along -/
def LX (p : Program) (s : State) (m : MethodId) (meth : Method) (c : Code) (b L : Nat) (xs : Nat → Int32) (D : va_G) (z : ClassId × ClassId × ClassId) (tM tS : Nat) : Prop := p.tables.exec = Jvm.exec ∧ c.code = code ∧ meth.sig.returnType = ret ∧ c.maxLocals = 5 ∧ s.vm.findClass RL = some m.cls ∧ (∀ w ∈ wsL_law, w.before #[Value.ref b] s = true) ∧ va_X b L xs s s.heap ∧ b < s.heap.size ∧ va_K D vwCl (TY z) s ∧ EV tM tS (fun q => s.heap.size ≤ q) s
set_option maxRecDepth 100000 in
set_option maxHeartbeats 4000000 in
theorem law_64 (C : LX p s m meth c b L xs D z tM tS) {i : Nat} (hi : i < 60) {v : PV} (R : INV (i + 1) v) {x r : Int32} {H : Heap} {locs : List Loc} {ls : Array Slot} (hP : va_P D vwCl (wX9 z h a1 a2 a3 hh hh1 d0 d1 d2 d3 t9 t91 r9 r91 r92 r93 v) H) (hD : va_D (fun q : Nat => s.heap.size ≤ q) (wX9 z h a1 a2 a3 hh hh1 d0 d1 d2 d3 t9 t91 r9 r91 r92 r93 v)) (hS : va_S (fun q : Nat => s.heap.size ≤ q) s.heap H locs) (hl : lv_has ls 5 [(2, .int (nI i)), (1, .ref h), (0, .ref b), (3, .int x), (4, .int r)])
    (kk : ∀ (v1 : PV) (H1 : Heap) (locs1 : List Loc), INV (i + 1) v1 → va_P D vwCl (wX9 z h a1 a2 a3 hh hh1 d0 d1 d2 d3 t9 t91 r9 r91 r92 r93 v1) H1 → va_D (fun q : Nat => s.heap.size ≤ q) (wX9 z h a1 a2 a3 hh hh1 d0 d1 d2 d3 t9 t91 r9 r91 r92 r93 v1) → va_S (fun q : Nat => s.heap.size ≤ q) s.heap H1 locs1 → W p l e room_1 s m #[Value.ref b] below meth c H1 locs1 128 1106 Q (F0 m 87 ls [])) : W p l e room_1 s m #[Value.ref b] below meth c H locs 128 1106 Q (F0 m 64 ls []) := by
  obtain ⟨hx, hb, hr, hml, hown, hts, hX, hbl, hK, hE⟩ := C
  have hA : ∀ q : Nat, s.heap.size ≤ q → (fun q : Nat => s.heap.size ≤ q) q := fun _ h => h
  refine lv_iload_n hx hb dL_law_64 rfl (lv_at hl 0 rfl) ?_
  refine lv_iconst (v := 3) hx hb dL_law_65 (by decide) ?_
  refine lv_irem hx hb dL_law_66 (by decide) ?_
  refine lv_iconst (v := 2) hx hb dL_law_67 (by decide) ?_
  refine lv_icmp_ne (tgt := 87) hx hb dL_law_68 (by decide) (fun _ => ?_) (fun _ => ?_)
  · exact kk v H locs R hP hD hS
  · refine lv_aload_n hx hb dL_law_71 rfl (lv_at hl 1 rfl) ?_
    refine lv_iload_n hx hb dL_law_72 rfl (lv_at hl 3 rfl) ?_
    refine lv_iconst (v := 5) hx hb dL_law_73 (by decide) ?_
    refine lv_ishr hx hb dL_law_74 ?_
    refine lv_iconst (v := 5) hx hb dL_law_75 (by decide) ?_
    refine call_0 len9 (rS (As := [.int (x >>> (5 &&& 31)), .int 5]) (rest := [.ref h]) ⟨hx, hb, hml, hown, hts⟩ (c_L_low l D z (x >>> (5 &&& 31)) 5 (by decide) H.size) (va_cwS 2 hts gL_law_L_low rfl rfl rfl (by decide +kernel) ⟨Nat.le_of_ble_eq_true rfl, Nat.le_of_ble_eq_true rfl⟩) e0_ok e_0 hK hP hD [] (by decide) rfl rfl hl.1 rfl (Nat.le_of_ble_eq_true rfl) dL_law_76 ⟨Nat.le_of_ble_eq_true rfl, Nat.le_of_ble_eq_true rfl⟩) hK hP hD hS hA (fun zr zu H locs hw hP hD hS => ?_)
    obtain ⟨j, hj, ej⟩ := low5 (x >>> (5 &&& 31))
    have hw : zr = nI j := (show zr = f_L_low (x >>> (5 &&& 31)) 5 from hw).trans ej
    subst hw
    refine call_W (w1 := fun zu => wX9 z h a1 a2 a3 hh hh1 d0 d1 d2 d3 t9 t91 r9 r91 r92 r93 zu) len9 (fun _ => len9) (rS (As := [.ref h, .int (nI j)]) (rest := []) ⟨hx, hb, hml, hown, hts⟩ (c_L_isShowSo l D z tM tS h a1 a2 a3 hh hh1 d0 d1 d2 d3 t9 t91 r9 r91 r92 r93 v (nI j) ⟨i + 1, R⟩ H.size) (va_cwS 2 hts gL_law_L_isShowSo rfl rfl rfl (by decide +kernel) ⟨Nat.le_of_ble_eq_true rfl, Nat.le_of_ble_eq_true rfl⟩) (ev_ok tM tS) (e_go (ev_ok tM tS) hE hD hS hA (List.range 128) (gN len9)) hK hP hD (List.range 128) nd128 (gN len9) rfl hl.1 rfl (Nat.le_of_ble_eq_true rfl) dL_law_79 ⟨Nat.le_of_ble_eq_true rfl, Nat.le_of_ble_eq_true rfl⟩) hK hP hD hS hA (fun r1 u1 H locs hw hP hD hS => ?_)
    have hw : (r1, u1) = f_L_isShowSo v (nI j) := hw.1
    have k := l_show R (by omega) hj
    rw [← hw] at k
    obtain ⟨k1, k2⟩ := k
    have k1 : r1 = 1 := k1
    subst k1
    have hP : va_P D vwCl (wX9 z h a1 a2 a3 hh hh1 d0 d1 d2 d3 t9 t91 r9 r91 r92 r93 u1) H := hP
    have hD : va_D (fun q : Nat => s.heap.size ≤ q) (wX9 z h a1 a2 a3 hh hh1 d0 d1 d2 d3 t9 t91 r9 r91 r92 r93 u1) := hD
    refine lv_if_ne (tgt := 87) hx hb dL_law_82 (by decide) (fun _ => ?_) (fun c_9 => absurd c_9 (by decide))
    exact kk u1 H locs k2 hP hD hS
set_option maxRecDepth 100000 in
set_option maxHeartbeats 4000000 in
theorem law_36 (C : LX p s m meth c b L xs D z tM tS) {i : Nat} (hi : i < 60) {v : PV} (R : INV (i + 1) v) {x r : Int32} {H : Heap} {locs : List Loc} {ls : Array Slot} (hP : va_P D vwCl (wX9 z h a1 a2 a3 hh hh1 d0 d1 d2 d3 t9 t91 r9 r91 r92 r93 v) H) (hD : va_D (fun q : Nat => s.heap.size ≤ q) (wX9 z h a1 a2 a3 hh hh1 d0 d1 d2 d3 t9 t91 r9 r91 r92 r93 v)) (hS : va_S (fun q : Nat => s.heap.size ≤ q) s.heap H locs) (hl : lv_has ls 5 [(2, .int (nI i)), (1, .ref h), (0, .ref b), (3, .int x), (4, .int r)])
    (kk : ∀ (v1 : PV) (H1 : Heap) (locs1 : List Loc), INV (i + 1) v1 → va_P D vwCl (wX9 z h a1 a2 a3 hh hh1 d0 d1 d2 d3 t9 t91 r9 r91 r92 r93 v1) H1 → va_D (fun q : Nat => s.heap.size ≤ q) (wX9 z h a1 a2 a3 hh hh1 d0 d1 d2 d3 t9 t91 r9 r91 r92 r93 v1) → va_S (fun q : Nat => s.heap.size ≤ q) s.heap H1 locs1 → W p l e room_1 s m #[Value.ref b] below meth c H1 locs1 128 1106 Q (F0 m 87 ls [])) : W p l e room_1 s m #[Value.ref b] below meth c H locs 128 1106 Q (F0 m 36 ls []) := by
  obtain ⟨hx, hb, hr, hml, hown, hts, hX, hbl, hK, hE⟩ := id C
  have hA : ∀ q : Nat, s.heap.size ≤ q → (fun q : Nat => s.heap.size ≤ q) q := fun _ h => h
  refine lv_aload_n hx hb dL_law_36 rfl (lv_at hl 1 rfl) ?_
  refine call_W (w1 := fun _ => wX9 z h a1 a2 a3 hh hh1 d0 d1 d2 d3 t9 t91 r9 r91 r92 r93 v) len9 (fun _ => len9) (rS (As := [.ref h]) (rest := []) ⟨hx, hb, hml, hown, hts⟩ (c_L_areThingsSo l D z tM tS h a1 a2 a3 hh hh1 d0 d1 d2 d3 t9 t91 r9 r91 r92 r93 v (l_pre R).1.1 (l_pre R).1.2 (l_pre R).2.1 (l_pre R).2.2.1 (l_pre R).2.2.2.1 (l_pre R).2.2.2.2 H.size) (va_cwS 1 hts gL_law_L_areThingsSo rfl rfl rfl (by decide +kernel) ⟨Nat.le_of_ble_eq_true rfl, Nat.le_of_ble_eq_true rfl⟩) (ev_ok tM tS) (e_go (ev_ok tM tS) hE hD hS hA (List.range 128) (gN len9)) hK hP hD (List.range 128) nd128 (gN len9) rfl hl.1 rfl (Nat.le_of_ble_eq_true rfl) dL_law_37 ⟨Nat.le_of_ble_eq_true rfl, Nat.le_of_ble_eq_true rfl⟩) hK hP hD hS hA (fun r1 u1 H locs hw hP hD hS => ?_)
  have hw : r1 = 1 := (show r1 = f_L_areThingsSo v from hw.1).trans (l_things R)
  subst hw
  have hP : va_P D vwCl (wX9 z h a1 a2 a3 hh hh1 d0 d1 d2 d3 t9 t91 r9 r91 r92 r93 v) H := hP
  have hD : va_D (fun q : Nat => s.heap.size ≤ q) (wX9 z h a1 a2 a3 hh hh1 d0 d1 d2 d3 t9 t91 r9 r91 r92 r93 v) := hD
  refine lv_if_eq (tgt := 85) hx hb dL_law_40 (by decide) (fun c_1 => absurd c_1 (by decide)) (fun _ => ?_)
  refine lv_aload_n hx hb dL_law_43 rfl (lv_at hl 1 rfl) ?_
  refine call_W (w1 := fun _ => wX9 z h a1 a2 a3 hh hh1 d0 d1 d2 d3 t9 t91 r9 r91 r92 r93 v) len9 (fun _ => len9) (rS (As := [.ref h]) (rest := []) ⟨hx, hb, hml, hown, hts⟩ (c_L_areBarnsSo l D z tM tS h a1 a2 a3 hh hh1 d0 d1 d2 d3 t9 t91 r9 r91 r92 r93 v (l_pre R).1.1 (l_pre R).1.2 (l_pre R).2.1 (l_pre R).2.2.1 (l_pre R).2.2.2.1 (l_pre R).2.2.2.2 H.size) (va_cwS 1 hts gL_law_L_areBarnsSo rfl rfl rfl (by decide +kernel) ⟨Nat.le_of_ble_eq_true rfl, Nat.le_of_ble_eq_true rfl⟩) (ev_ok tM tS) (e_go (ev_ok tM tS) hE hD hS hA (List.range 128) (gN len9)) hK hP hD (List.range 128) nd128 (gN len9) rfl hl.1 rfl (Nat.le_of_ble_eq_true rfl) dL_law_44 ⟨Nat.le_of_ble_eq_true rfl, Nat.le_of_ble_eq_true rfl⟩) hK hP hD hS hA (fun r1 u1 H locs hw hP hD hS => ?_)
  have hw : r1 = 1 := (show r1 = f_L_areBarnsSo v from hw.1).trans (l_barns R)
  subst hw
  have hP : va_P D vwCl (wX9 z h a1 a2 a3 hh hh1 d0 d1 d2 d3 t9 t91 r9 r91 r92 r93 v) H := hP
  have hD : va_D (fun q : Nat => s.heap.size ≤ q) (wX9 z h a1 a2 a3 hh hh1 d0 d1 d2 d3 t9 t91 r9 r91 r92 r93 v) := hD
  refine lv_if_eq (tgt := 85) hx hb dL_law_47 (by decide) (fun c_1 => absurd c_1 (by decide)) (fun _ => ?_)
  refine lv_iload_n hx hb dL_law_50 rfl (lv_at hl 0 rfl) ?_
  refine lv_iconst (v := 2) hx hb dL_law_51 (by decide) ?_
  refine lv_irem hx hb dL_law_52 (by decide) ?_
  refine lv_iconst (v := 1) hx hb dL_law_53 (by decide) ?_
  refine lv_icmp_ne (tgt := 64) hx hb dL_law_54 (by decide) (fun _ => ?_) (fun _ => ?_)
  · exact law_64 C hi R hP hD hS hl kk
  · refine lv_aload_n hx hb dL_law_57 rfl (lv_at hl 1 rfl) ?_
    refine call_W (w1 := fun _ => wX9 z h a1 a2 a3 hh hh1 d0 d1 d2 d3 t9 t91 r9 r91 r92 r93 v) len9 (fun _ => len9) (rS (As := [.ref h]) (rest := []) ⟨hx, hb, hml, hown, hts⟩ (c_L_isBestSo l D z tM tS h a1 a2 a3 hh hh1 d0 d1 d2 d3 t9 t91 r9 r91 r92 r93 v (l_pre R).1.1 (l_pre R).1.2 (l_pre R).2.1 (l_pre R).2.2.1 (l_pre R).2.2.2.1 (l_pre R).2.2.2.2 H.size) (va_cwS 1 hts gL_law_L_isBestSo rfl rfl rfl (by decide +kernel) ⟨Nat.le_of_ble_eq_true rfl, Nat.le_of_ble_eq_true rfl⟩) (ev_ok tM tS) (e_go (ev_ok tM tS) hE hD hS hA (List.range 128) (gN len9)) hK hP hD (List.range 128) nd128 (gN len9) rfl hl.1 rfl (Nat.le_of_ble_eq_true rfl) dL_law_58 ⟨Nat.le_of_ble_eq_true rfl, Nat.le_of_ble_eq_true rfl⟩) hK hP hD hS hA (fun r1 u1 H locs hw hP hD hS => ?_)
    have hw : r1 = 1 := (show r1 = f_L_isBestSo v from hw.1).trans (l_best R (by omega))
    subst hw
    have hP : va_P D vwCl (wX9 z h a1 a2 a3 hh hh1 d0 d1 d2 d3 t9 t91 r9 r91 r92 r93 v) H := hP
    have hD : va_D (fun q : Nat => s.heap.size ≤ q) (wX9 z h a1 a2 a3 hh hh1 d0 d1 d2 d3 t9 t91 r9 r91 r92 r93 v) := hD
    refine lv_if_eq (tgt := 85) hx hb dL_law_61 (by decide) (fun c_1 => absurd c_1 (by decide)) (fun _ => ?_)
    exact law_64 C hi R hP hD hS hl kk
set_option maxRecDepth 100000 in
set_option maxHeartbeats 4000000 in
theorem law_loop (C : LX p s m meth c b L xs D z tM tS) (hL : L ≤ 260) (hend : ∀ (H1 : Heap) (locs1 : List Loc) (ls : Array Slot), (∀ q ∈ locs1, s.heap.size ≤ q.base) → W p l e room_1 s m #[Value.ref b] below meth c H1 locs1 128 1106 Q (F0 m 93 ls [])) : ∀ (n i : Nat), i ≤ 60 → 60 ≤ i + n → ∀ (v : PV), INV i v → ∀ (H : Heap) (locs : List Loc) (ls : Array Slot), va_P D vwCl (wX9 z h a1 a2 a3 hh hh1 d0 d1 d2 d3 t9 t91 r9 r91 r92 r93 v) H → va_D (fun q : Nat => s.heap.size ≤ q) (wX9 z h a1 a2 a3 hh hh1 d0 d1 d2 d3 t9 t91 r9 r91 r92 r93 v) → va_S (fun q : Nat => s.heap.size ≤ q) s.heap H locs → lv_has ls 5 [(2, .int (nI i)), (1, .ref h), (0, .ref b)] → W p l e room_1 s m #[Value.ref b] below meth c H locs 128 1106 Q (F0 m 10 ls []) := by
  obtain ⟨hx, hb, hr, hml, hown, hts, hX, hbl, hK, hE⟩ := id C
  have hA : ∀ q : Nat, s.heap.size ≤ q → (fun q : Nat => s.heap.size ≤ q) q := fun _ h => h
  have hbA : ¬ (fun q : Nat => s.heap.size ≤ q) b := Nat.not_le.mpr hbl
  intro n
  induction n with
  | zero =>
    intro i hi hin v R H locs ls hP hD hS hl
    refine lv_iload_n hx hb dL_law_10 rfl (lv_at hl 0 rfl) ?_
    refine lv_bipush (v := 60) hx hb dL_law_11 (by decide) ?_
    refine lv_icmp_ge (tgt := 93) hx hb dL_law_13 (by decide) (fun _ => ?_) (fun c_1 => absurd ((nle_iff (nlit 60) (nrf i) (by omega) (by omega)).mpr (by omega)) c_1)
    exact hend _ _ _ (fun q hq => hS.2.2 q hq)
  | succ n ih =>
    intro i hi hin v R H locs ls hP hD hS hl
    have q60 : 60 ≤ nI i ↔ 60 ≤ i := nle_iff (nlit 60) (nrf i) (by omega) (by omega)
    refine lv_iload_n hx hb dL_law_10 rfl (lv_at hl 0 rfl) ?_
    refine lv_bipush (v := 60) hx hb dL_law_11 (by decide) ?_
    refine lv_icmp_ge (tgt := 93) hx hb dL_law_13 (by decide) (fun _ => ?_) (fun c_1 => ?_)
    · exact hend _ _ _ (fun q hq => hS.2.2 q hq)
    · have hi60 : i < 60 := Nat.lt_of_not_le (fun z => c_1 (q60.mpr z))
      refine lv_aload_n hx hb dL_law_16 rfl (lv_at hl 2 rfl) ?_
      refine lv_iload_n hx hb dL_law_17 rfl (lv_at hl 0 rfl) ?_
      refine call_0 len9 (rS (As := [.ref b, .int (nI i)]) (rest := []) ⟨hx, hb, hml, hown, hts⟩ (c_L_cell l D z b L xs i hL hi60 H.size) (va_cwS 2 hts gL_law_L_cell rfl rfl rfl (by decide +kernel) ⟨Nat.le_of_ble_eq_true rfl, Nat.le_of_ble_eq_true rfl⟩) (es_ok b L xs) (e_go (es_ok b L xs) (show ES b L xs (fun q : Nat => s.heap.size ≤ q) s from ⟨hX, hbA⟩) hD hS hA [] rfl) hK hP hD [] (by decide) rfl rfl hl.1 rfl (Nat.le_of_ble_eq_true rfl) dL_law_18 ⟨Nat.le_of_ble_eq_true rfl, Nat.le_of_ble_eq_true rfl⟩) hK hP hD hS hA (fun x zu H locs _ hP hD hS => ?_)
      refine lv_istore_n (lv' := [(3, .int x), (2, .int (nI i)), (1, .ref h), (0, .ref b)]) hx hb dL_law_21 rfl hl (by decide) rfl (fun ls hl => ?_)
      refine lv_aload_n hx hb dL_law_22 rfl (lv_at hl 2 rfl) ?_
      refine lv_iload_n hx hb dL_law_23 rfl (lv_at hl 0 rfl) ?_
      refine call_W (w1 := fun zu => wX9 z h a1 a2 a3 hh hh1 d0 d1 d2 d3 t9 t91 r9 r91 r92 r93 zu) len9 (fun _ => len9) (rS (As := [.ref h, .int x]) (rest := []) ⟨hx, hb, hml, hown, hts⟩ (c_L_does l D z tM tS h a1 a2 a3 hh hh1 d0 d1 d2 d3 t9 t91 r9 r91 r92 r93 v x (l_pre R).1.1 (l_pre R).1.2 (l_pre R).2.1 (l_pre R).2.2.1 (l_pre R).2.2.2.1 (l_pre R).2.2.2.2 H.size) (va_cwS 2 hts gL_law_L_does rfl rfl rfl (by decide +kernel) ⟨Nat.le_of_ble_eq_true rfl, Nat.le_of_ble_eq_true rfl⟩) (ev_ok tM tS) (e_go (ev_ok tM tS) hE hD hS hA (List.range 128) (gN len9)) hK hP hD (List.range 128) nd128 (gN len9) rfl hl.1 rfl (Nat.le_of_ble_eq_true rfl) dL_law_24 ⟨Nat.le_of_ble_eq_true rfl, Nat.le_of_ble_eq_true rfl⟩) hK hP hD hS hA (fun r1 u1 H locs hw hP hD hS => ?_)
      have hw : (r1, u1) = f_L_does v x := hw
      have k := l_does R x
      rw [← hw] at k
      obtain ⟨k1, k2⟩ := k
      have k1 : ANS r1 := k1
      have k2 : INV (i + 1) u1 := k2
      have hP : va_P D vwCl (wX9 z h a1 a2 a3 hh hh1 d0 d1 d2 d3 t9 t91 r9 r91 r92 r93 u1) H := hP
      have hD : va_D (fun q : Nat => s.heap.size ≤ q) (wX9 z h a1 a2 a3 hh hh1 d0 d1 d2 d3 t9 t91 r9 r91 r92 r93 u1) := hD
      refine lv_istore (lv' := [(4, .int r1), (3, .int x), (2, .int (nI i)), (1, .ref h), (0, .ref b)]) hx hb dL_law_27 hl (by decide) rfl (fun ls hl => ?_)
      refine lv_iload hx hb dL_law_29 (lv_at hl 0 rfl) ?_
      refine lv_ldc (v := (-10000014)) hx hb hown (hts (.constant RL 80 (-10000014)) (by decide +kernel)) dL_law_31 ?_
      refine lv_icmp_lt (tgt := 85) hx hb dL_law_33 (by decide) (fun c_2 => absurd c_2 k1) (fun _ => ?_)
      refine law_36 C hi60 k2 hP hD hS (lv_sub hl [2, 3, 4, 1, 0] rfl) (fun v1 H1 locs1 R1 hP1 hD1 hS1 => ?_)
      refine lv_iinc (v := nI (i + 1)) (lv' := [(2, .int (nI (i + 1))), (4, .int r1), (3, .int x), (1, .ref h), (0, .ref b)]) hx hb dL_law_87 hl (k := 2) rfl (nI_add i 1) (by decide) rfl (fun ls hl => ?_)
      refine lv_goto (tgt := 10) hx hb dL_law_90 (by decide) ?_
      exact ih (i + 1) (by omega) (by omega) v1 R1 _ _ _ hP1 hD1 hS1 (lv_sub hl [0, 3, 4] rfl)
end LW
