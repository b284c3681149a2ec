/-! the law: its world is the class's object beside the reference's -/
theorem gA (wa wb : va_W) : (List.range wa.length).map (fun i => (wa ++ wb)[i]?) = wa.map some := by
  apply List.ext_getElem
  · simp
  · intro i h1 h2
    have h3 : i < wa.length := by simpa using h1
    rw [List.getElem_map, List.getElem_map, List.getElem_range, List.getElem?_append_left h3, List.getElem?_eq_getElem h3]
theorem gB (wa wb : va_W) : (List.range' wa.length wb.length).map (fun i => (wa ++ wb)[i]?) = wb.map some := by
  apply List.ext_getElem
  · simp
  · intro i h1 h2
    have h3 : i < wb.length := by simpa using h1
    rw [List.getElem_map, List.getElem_map, List.getElem_range', List.getElem?_append_right (by omega), show wa.length + 1 * i - wa.length = i by omega, List.getElem?_eq_getElem h3]
theorem gA1 {wa wb : va_W} {n : Nat} (h : wa.length = n) : (List.range n).map (fun i => (wa ++ wb)[i]?) = wa.map some := by
  subst h; exact gA wa wb
theorem gB1 {wa wb : va_W} {n k : Nat} (h : wa.length = n) (h2 : wb.length = k) : (List.range' n k).map (fun i => (wa ++ wb)[i]?) = wb.map some := by
  subst h h2; exact gB wa wb
theorem gN {wa : va_W} {n : Nat} (h : wa.length = n) : (List.range n).map (fun i => wa[i]?) = wa.map some := by
  have k := gA1 (wb := []) h
  rwa [List.append_nil] at k
theorem nd128 : va_nd (List.range 128) = true := by decide +kernel
theorem nd134 : va_nd (List.range 134) = true := by decide +kernel
theorem nd6 : va_nd (List.range' 128 6) = true := by decide +kernel
theorem ndX : va_nd (List.range' 6 128 ++ List.range 6) = true := by decide +kernel
theorem dsX : ∀ i ∈ List.range' 128 6, i ∉ List.range 128 := by decide +kernel
theorem dsM : ∀ i ∈ List.range 128, i ∉ List.range' 128 6 := by decide +kernel
set_option maxRecDepth 10000 in
theorem len9 {z : ClassId × ClassId × ClassId} {h : Nat} {a1 a2 a3 : Nat → Nat} {hh hh1 : Nat} {d0 d1 d2 d3 : Nat → Nat} {t9 t91 r9 r91 r92 r93 : Nat} {v : PV} : (wX9 z h a1 a2 a3 hh hh1 d0 d1 d2 d3 t9 t91 r9 r91 r92 r93 v).length = 128 := rfl
set_option maxRecDepth 10000 in
theorem len10 {z : ClassId × ClassId × ClassId} {g g1 g2 g3 g4 g5 : Nat} {w : MV} : (wX10 z g g1 g2 g3 g4 g5 w).length = 6 := rfl
section LL
variable {p : Program} {l : Launch} {e : Env} {R : Room} {s : State} {m : MethodId} {args : Array Value} {below : List Frame} {meth : Method} {c : Code} {H : Heap} {locs : List Loc} {cells slots : Nat} {Q : State → Prop}
variable {pc : Nat} {ls : Array Slot} {rest st0 : List Value} {D : va_G} {z : ClassId × ClassId × ClassId} {A : Nat → Prop} {a : Array Value} {S : Type}
theorem call_X {wa wb : va_W} {w1 : S → va_W} {post : Int32 → S → Prop} (ha : wa.length = 128) (hb : wb.length = 6) (h1 : ∀ u, (w1 u).length = 128) (hr : va_Run p l e R s m args below meth c H locs cells slots 0 0 (F0 m pc ls st0) rest (va_Qi post (fun u t => AT D z (w1 u) (va_A wa H.size) t) (va_A wa H.size) a) (va_A wa H.size))
    (hK : va_K D vwCl (TY z) s) (hP : va_P D vwCl (wa ++ wb) H) (hD : va_D A (wa ++ wb)) (hS : va_S A s.heap H locs) (hA : ∀ q, s.heap.size ≤ q → A q)
    (kk : ∀ (r : Int32) (u : S) (H1 : Heap) (locs1 : List Loc), post r u → va_P D vwCl (w1 u ++ wb) H1 → va_D A (w1 u ++ wb) → va_S A s.heap H1 locs1 → W p l e R s m args below meth c H1 locs1 cells slots Q (F0 m (pc + 3) ls (.int r :: rest))) : W p l e R s m args below meth c H locs cells slots Q (F0 m pc ls st0) :=
  call_i wb (fun u => w1 u ++ wb) hr hK hP hD hS hA (List.range 128) (List.range' 128 6) (List.range' 6 128 ++ List.range 6) (gA1 ha) (gB1 ha hb) nd6 dsX ndX (fun u => by rw [List.map_append, List.map_append, gB1 hb (h1 u), gA1 hb]) kk
theorem call_M {wa wb : va_W} {w1 : S → va_W} {post : Int32 → S → Prop} (ha : wa.length = 128) (hb : wb.length = 6) (h1 : ∀ u, (w1 u).length = 6) (hr : va_Run p l e R s m args below meth c H locs cells slots 0 0 (F0 m pc ls st0) rest (va_Qi post (fun u t => AT D z (w1 u) (va_A wb H.size) t) (va_A wb H.size) a) (va_A wb H.size))
    (hK : va_K D vwCl (TY z) s) (hP : va_P D vwCl (wa ++ wb) H) (hD : va_D A (wa ++ wb)) (hS : va_S A s.heap H locs) (hA : ∀ q, s.heap.size ≤ q → A q)
    (kk : ∀ (r : Int32) (u : S) (H1 : Heap) (locs1 : List Loc), post r u → va_P D vwCl (wa ++ w1 u) H1 → va_D A (wa ++ w1 u) → va_S A s.heap H1 locs1 → W p l e R s m args below meth c H1 locs1 cells slots Q (F0 m (pc + 3) ls (.int r :: rest))) : W p l e R s m args below meth c H locs cells slots Q (F0 m pc ls st0) :=
  call_i wa (fun u => wa ++ w1 u) hr hK hP hD hS hA (List.range' 128 6) (List.range 128) (List.range 134) (gB1 ha hb) (gA1 ha) nd128 dsM nd134 (fun u => gN (by rw [List.length_append, ha, h1 u])) kk
/-- a constructor of the newest object -/
theorem call_N {mc ms : Nat} {wr : va_W} {x : Nat × va_E} {w1 : S → va_W} {post : S → Prop} (nr n1 : Nat) (hl : wr.length = nr) (h1 : ∀ u, (w1 u).length = n1) (hn : va_nd (List.range nr) = true) (hnp : va_nd (List.range (nr + n1)) = true) (hr : va_Run p l e R s m args below meth c H locs cells slots mc ms (F0 m pc ls st0) rest (va_Qv post (fun u t => AT D z (w1 u) (va_A [x] H.size) t) (va_A [x] H.size) a) (va_A [x] H.size))
    (hK : va_K D vwCl (TY z) s) (hP : va_P D vwCl (wr ++ [x]) H) (hD : va_D A (wr ++ [x])) (hS : va_S A s.heap H locs) (hA : ∀ q, s.heap.size ≤ q → A q)
    (kk : ∀ (u : S) (H1 : Heap) (locs1 : List Loc), post u → va_P D vwCl (wr ++ w1 u) H1 → va_D A (wr ++ w1 u) → va_S A s.heap H1 locs1 → W p l e R s m args below meth c H1 locs1 (cells + mc) (slots + ms) Q (F0 m (pc + 3) ls rest)) : W p l e R s m args below meth c H locs cells slots Q (F0 m pc ls st0) := by
  subst hl
  refine call_v wr (fun u => wr ++ w1 u) hr hK hP hD hS hA [wr.length] (List.range wr.length) (List.range (wr.length + n1)) ?_ (gA1 rfl) hn ?_ hnp (fun u => gN (by rw [List.length_append, h1 u])) kk
  · rw [List.map_cons, List.map_nil, List.getElem?_append_right (Nat.le_refl _), Nat.sub_self]; rfl
  · intro i hi h2
    rw [List.mem_range] at hi
    rw [List.mem_singleton] at h2
    omega
end LL
/-- what holds in the law all along -/
def LX (p : Program) (s : State) (m : MethodId) (meth : Method) (c : Code) (b L : Nat) (xs : Nat → Int32) (D : va_G) (z : ClassId × ClassId × ClassId) (tM tS : Nat) : Prop := p.tables.exec = Jvm.exec ∧ c.code = code ∧ meth.sig.returnType = ret ∧ c.maxLocals = 4 ∧ s.vm.findClass RL = some m.cls ∧ (∀ w ∈ wsL_law, w.before #[Value.ref b] s = true) ∧ va_X b L xs s s.heap ∧ b < s.heap.size ∧ va_K D vwCl (TY z) s ∧ EV tM tS (fun q => s.heap.size ≤ q) s
section RL9
variable {N : Nat} {v : PV} {w : MV}
theorem rl_n (R : REL N v w) : v.2.2.2.1.2.1 = nI v.2.2.2.1.2.1.toNatClampNeg ∧ v.2.2.2.1.2.1.toNatClampNeg < 4 := by
  obtain ⟨k, p, h1, h2, h3, h4, h5, h6⟩ := R.2.1
  rw [h5, nI_clm (by omega)]
  exact ⟨rfl, h2⟩
theorem rl_t (R : REL N v w) : v.2.2.2.2.1.2 = nI v.2.2.2.2.1.2.toNatClampNeg ∧ v.2.2.2.2.1.2.toNatClampNeg ≤ 80 := by
  obtain ⟨L, hL, e1, e2, e3⟩ := R.2.2.1
  rw [e1, nI_clm (by omega)]
  exact ⟨rfl, hL⟩
theorem nI_to {n : Nat} (h : n ≤ 80) : (nI n).toInt ≤ 80 := by
  have k := (nle_iff (nrf n) (nlit 80) (by omega) (by omega)).mpr h
  rw [Int32.le_iff_toInt_le] at k
  exact k
theorem rl_tt (R : REL N v w) : v.2.2.2.2.1.2.toInt ≤ 80 := by
  obtain ⟨L, hL, e1, e2, e3⟩ := R.2.2.1
  rw [e1]; exact nI_to hL
theorem nI_to6 {n : Nat} (h : n ≤ 6) : (nI n).toInt ≤ 6 := by
  have k := (nle_iff (nrf n) (nlit 6) (by omega) (by omega)).mpr h
  rw [Int32.le_iff_toInt_le] at k
  exact k
theorem rl_ls (R : REL N v w) : v.1.2.2.2.1.2.toInt ≤ 6 := by
  obtain ⟨⟨m, hm, em⟩, l2, l3⟩ := R.1.2.2.2.1
  rw [em]; exact nI_to6 hm
theorem rm_ls (R : REL N v w) : (w.1 77).toInt ≤ 6 := by
  obtain ⟨⟨m, hm, em⟩, l2, l3⟩ := R.1.2.2.2.1
  rw [l2, em]; exact nI_to6 hm
theorem rm_k (R : REL N v w) : w.2.2.2.1 = nI w.2.2.2.1.toNatClampNeg ∧ w.2.2.2.1.toNatClampNeg ≤ 4 := by
  obtain ⟨k, p, h1, h2, h3, h4, h5, h6⟩ := R.2.1
  rw [h4, nI_clm (by omega)]
  exact ⟨rfl, h1⟩
theorem rm_y (R : REL N v w) : w.2.2.2.2.2.2.2.1 = nI w.2.2.2.2.2.2.2.1.toNatClampNeg ∧ w.2.2.2.2.2.2.2.1.toNatClampNeg ≤ 80 := by
  obtain ⟨L, hL, e1, e2, e3⟩ := R.2.2.1
  rw [e2, nI_clm (by omega)]
  exact ⟨rfl, hL⟩
theorem rm_yt (R : REL N v w) : w.2.2.2.2.2.2.2.1.toInt ≤ 80 := by
  obtain ⟨L, hL, e1, e2, e3⟩ := R.2.2.1
  rw [e2]; exact nI_to hL
end RL9
theorem nar_nar (x : Int32) : vp_nar .char (vp_nar .char x) = vp_nar .char x := by
  show ((x.toUInt32 % 65536).toInt32.toUInt32 % 65536).toInt32 = (x.toUInt32 % 65536).toInt32
  have e : (x.toUInt32 % 65536).toInt32.toUInt32 = x.toUInt32 % 65536 := by simp
  rw [e]
  congr 1
  apply UInt32.toNat_inj.mp
  simp
/-- the law's test of what is left of the script -/
theorem len3 {i L : Nat} {x3 : Int32} (hi : i ≤ L) (hL : L ≤ 1536) (ex3 : x3 = nI i) (h : ¬ Int32.ofNat L - 3 < x3) : i + 3 ≤ L := by
  rcases Nat.lt_or_ge L (i + 3) with h2 | h2
  · exfalso
    apply h
    rw [ex3, Int32.lt_iff_toInt_lt]
    have e1 : (nI i).toInt = (i : Int) := nI_toInt (by omega)
    have e2 : (Int32.ofNat L - 3).toInt = (L : Int) - 3 := by
      have e3 : (Int32.ofNat L).toInt = (L : Int) := nI_toInt (n := L) (by omega)
      rw [Int32.toInt_sub, e3]
      have e4 : (3 : Int32).toInt = 3 := by decide
      rw [e4]
      exact Int.bmod_eq_of_le (by omega) (by omega)
    rw [e1, e2]
    omega
  · exact h2
