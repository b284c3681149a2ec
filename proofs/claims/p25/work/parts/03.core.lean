/-! the core: worlds with their environment, contracts in one form, calls in one row each -/
abbrev TY (z : ClassId × ClassId × ClassId) : List (ClassId × FieldType) := [(z.1, .int), (z.2.1, .char), (z.2.2, .object RX7)]
def MILESF (k : Nat) : Int32 := if k = 0 then 0 else if k = 1 then 8 else if k = 2 then 20 else if k = 3 then 26 else 45
def SEATSF (k : Nat) : Int32 := if k = 0 then 40 else if k = 1 then 60 else if k = 2 then 80 else if k = 3 then 50 else 30
/-- the words about private members of nest mates -/
def NW (U : State) : Prop := va_Nw (.methodLinkNest RX9 9 yX7_init RX9) U ∧ va_Nw (.methodLinkNest RX7 27 yX1_init RX9) U ∧ va_Nw (.methodLinkNest RX7 34 yX6_init RX9) U ∧ va_Nw (.methodLinkNest RX7 41 yX0_init RX9) U ∧ va_Nw (.methodLinkNest RX3 24 yX7_init RX9) U ∧ va_Nw (.methodLinkNest RX9 31 yX8_init RX9) U ∧ va_Nw (.methodLinkNest RX9 38 yX5_init RX9) U ∧ va_Nw (.methodLinkNest RX7 72 yX9_isBarn RX9) U ∧ va_Nw (.fieldLinkNest RX7 78 RX9 "MILES" "[I" RX9) U ∧ va_Nw (.methodLinkNest RX7 110 yX9_isGenerator RX9) U ∧ va_Nw (.methodLinkNest RX7 124 yX9_isFuelOnSale RX9) U ∧ va_Nw (.methodLinkNest RX7 144 yX9_isPrice RX9) U ∧ va_Nw (.fieldLinkNest RX7 180 RX9 "SEATS" "[I" RX9) U ∧ va_Nw (.methodLinkNest RX2 24 yX9_isGenerator RX9) U
/-- the environment: nest words, and the two static rows of numbers -/
def EV (tM tS : Nat) (A : Nat → Prop) (U : State) : Prop := NW U ∧ va_Z RX9 "MILES" "[I" (.ref tM) A U U.heap ∧ va_T .int tM 5 (fun j => .int (MILESF j)) A U U.heap ∧ va_Z RX9 "SEATS" "[I" (.ref tS) A U U.heap ∧ va_T .int tS 5 (fun j => .int (SEATSF j)) A U U.heap
def E0 (_ : Nat → Prop) (_ : State) : Prop := True
def EOK (E : (Nat → Prop) → State → Prop) : Prop := (∀ A U g mk a, E A U → E A (U.calling g mk a)) ∧ ∀ (A B : Nat → Prop) (s U : State) (H : Heap) (locs : List Loc), E A s → va_S A s.heap H locs → (∀ q, B q → A q) → U.heap = H → s.WarmedH U.vm → E B U
theorem e0_ok : EOK E0 := ⟨fun _ _ _ _ _ _ => trivial, fun _ _ _ _ _ _ _ _ _ _ _ => trivial⟩
theorem nw_same {u U : State} (h : u.vm = U.vm) (q : NW u) : NW U := by
  obtain ⟨a, b, c, d, e, f, g, i, j, k, l, m, n, o⟩ := q
  exact ⟨a.same rfl h, b.same rfl h, c.same rfl h, d.same rfl h, e.same rfl h, f.same rfl h, g.same rfl h, i.same rfl h, j.same rfl h, k.same rfl h, l.same rfl h, m.same rfl h, n.same rfl h, o.same rfl h⟩
theorem nw_warm {s U : State} (h : s.WarmedH U.vm) (q : NW s) : NW U := by
  obtain ⟨a, b, c, d, e, f, g, i, j, k, l, m, n, o⟩ := q
  exact ⟨a.warmM h, b.warmM h, c.warmM h, d.warmM h, e.warmM h, f.warmM h, g.warmM h, i.warmM h, j.warmF h, k.warmM h, l.warmM h, m.warmM h, n.warmF h, o.warmM h⟩
theorem ev_ok (tM tS : Nat) : EOK (EV tM tS) := by
  refine ⟨fun A U g mk a q => ?_, fun A B s U H locs q hS hAB hU hW => ?_⟩
  · obtain ⟨q1, q2, q3, q4, q5⟩ := q
    exact ⟨nw_same rfl q1, va_Z.moved (u := U) (U := U.calling g mk a) (Vm.Alike.refl U.vm) q2, va_T.moved (u := U) (U := U.calling g mk a) (Vm.Alike.refl U.vm) q3, va_Z.moved (u := U) (U := U.calling g mk a) (Vm.Alike.refl U.vm) q4, va_T.moved (u := U) (U := U.calling g mk a) (Vm.Alike.refl U.vm) q5⟩
  · obtain ⟨q1, q2, q3, q4, q5⟩ := q
    have hk : ∀ a : Nat, a < s.heap.size → ¬ A a → U.heap[a]? = s.heap[a]? := fun a h1 h2 => by rw [hU]; exact hS.2.1 a h1 h2
    exact ⟨nw_warm hW q1, ((q2.kept hk).narrow hAB).moved hW.alike, ((q3.kept hk).narrow hAB).moved hW.alike, ((q4.kept hk).narrow hAB).moved hW.alike, ((q5.kept hk).narrow hAB).moved hW.alike⟩
def PW (D : va_G) (z : ClassId × ClassId × ClassId) (ws : va_W) (sz : Nat) (E : (Nat → Prop) → State → Prop) (U : State) : Prop := U.heap.size = sz ∧ va_P D vwCl ws U.heap ∧ va_K D vwCl (TY z) U ∧ va_D (fun _ => True) ws ∧ E (va_A ws sz) U
def AT (D : va_G) (z : ClassId × ClassId × ClassId) (ws : va_W) (A : Nat → Prop) (t : State) : Prop := va_P D vwCl ws t.heap ∧ va_K D vwCl (TY z) t ∧ va_D A ws
theorem pw_blind {D : va_G} {z : ClassId × ClassId × ClassId} {ws : va_W} {sz : Nat} {E : (Nat → Prop) → State → Prop} (hE : EOK E) (as : List Value) : FrameBlind (va_Pc as (PW D z ws sz E)) := by
  intro a U g mk q
  obtain ⟨q0, q1, qP, qK, qD, qE⟩ := q
  exact ⟨q0, q1, qP, va_K.moved (u := U) (U := U.calling g mk a) (Vm.Alike.refl U.vm) qK, qD, hE.1 _ U g mk a qE⟩
abbrev CI (l : Launch) (y : MethodName) (wsy : List Cond) (fr lo mc ms : Nat) (as : List Value) (D : va_G) (z : ClassId × ClassId × ClassId) (W0 : va_W) (sz : Nat) (E : (Nat → Prop) → State → Prop) {S : Type} (post : Int32 → S → Prop) (W1 : S → va_W) : Prop :=
  Met l y wsy { frames := fr, cells := mc, slots := ms, locals := lo } (va_Pc as (PW D z W0 sz E)) (va_Qi post (fun u t => AT D z (W1 u) (va_A W0 sz) t) (va_A W0 sz)) mc ms (va_A W0 sz)
abbrev CV (l : Launch) (y : MethodName) (wsy : List Cond) (fr lo mc ms : Nat) (as : List Value) (D : va_G) (z : ClassId × ClassId × ClassId) (W0 : va_W) (sz : Nat) (E : (Nat → Prop) → State → Prop) {S : Type} (post : S → Prop) (W1 : S → va_W) : Prop :=
  Met l y wsy { frames := fr, cells := mc, slots := ms, locals := lo } (va_Pc as (PW D z W0 sz E)) (va_Qv post (fun u t => AT D z (W1 u) (va_A W0 sz) t) (va_A W0 sz)) mc ms (va_A W0 sz)
/-- a contract out of a walk from the entry -/
theorem met_of {l : Launch} {y : MethodName} {wsy ws' : List Cond} {rm : Room} {as : List Value} {D : va_G} {z : ClassId × ClassId × ClassId} {W0 : va_W} {sz : Nat} {E : (Nat → Prop) → State → Prop} {Qc : (Nat → Prop) → Array Value → State → Outcome → State → Prop} {mc ms : Nat} {cc : ByteArray} {maxL : Nat} {ret : Option FieldType}
    (hy : plainName y.cls = true) (hw : wsy = Cond.code y cc maxL ret :: ws') (hlen : (lg_sl as).length ≤ maxL)
    (body : ∀ (p : Program) (e : Env) (s : State) (m : MethodId) (below : List Frame) (meth : Method) (c : Code), p.tables.exec = Jvm.exec → c.code = cc → meth.sig.returnType = ret → c.maxLocals = maxL → (∀ w ∈ wsy, w.before as.toArray s = true) → s.vm.findClass y.cls = some m.cls → meth.locks = false → meth.name = y.name →
      ∀ (A : Nat → Prop), (∀ q, s.heap.size ≤ q → A q) → va_P D vwCl W0 s.heap → va_K D vwCl (TY z) s → va_D A W0 → va_S A s.heap s.heap [] → E A s → ∀ ls : Array Slot, lv_has ls maxL (lv_args 0 as) → W p l e (headSpec wsy rm).room s m as.toArray below meth c s.heap [] 0 0 (MQ below (Qc A) as.toArray s mc ms A) (F0 m 0 ls [])) :
    Met l y wsy rm (va_Pc as (PW D z W0 sz E)) (Qc (va_A W0 sz)) mc ms (va_A W0 sz) := by
  refine Met.ofW (cc := cc) (maxL := maxL) (ret := ret) hy hw ?_
  intro p e s m args below meth c s₁ B hml hv
  obtain ⟨rfl, hsz, hP, hK, hD0, hE⟩ := hv
  have hts := atoms_spec (ws := wsy) B.pre
  have hown : s.vm.findClass y.cls = some m.cls := findClass_of_methodNamed B.named
  have hin : meth.name = y.name := (name_of_methodNamed B.named B.method).1
  subst hsz
  have hl := lv_entry as (n := maxL) hlen
  rw [lg_entry_eq]
  generalize (lg_sl as ++ List.replicate (maxL - (lg_sl as).length) Slot.unset).toArray = ls at hl ⊢
  exact body p e s m below meth c B.exec B.bytes B.returns hml hts hown B.notSynchronized hin (va_A W0 s.heap.size) (fun q h => Or.inr h) hP hK (hD0.self (sz := s.heap.size)) va_S.rf hE ls hl
theorem met_i {l : Launch} {y : MethodName} {wsy ws' : List Cond} {fr lo : Nat} {as : List Value} {D : va_G} {z : ClassId × ClassId × ClassId} {W0 : va_W} {sz : Nat} {E : (Nat → Prop) → State → Prop} {S : Type} {post : Int32 → S → Prop} {W1 : S → va_W} {mc ms : Nat} (cc : ByteArray) (maxL : Nat) (ret : Option FieldType)
    (hy : plainName y.cls = true) (hw : wsy = Cond.code y cc maxL ret :: ws') (hlen : (lg_sl as).length ≤ maxL)
    (body : ∀ (p : Program) (e : Env) (s : State) (m : MethodId) (args : Array Value) (below : List Frame) (meth : Method) (c : Code) (R : Room) (Q : State → Prop), p.tables.exec = Jvm.exec → c.code = cc → meth.sig.returnType = ret → c.maxLocals = maxL → (∀ w ∈ wsy, w.before args s = true) → s.vm.findClass y.cls = some m.cls → meth.locks = false → meth.name = y.name → fr ≤ R.frames → lo ≤ R.locals → mc ≤ R.cells → ms ≤ R.slots → 0 ≤ R.cells → 0 ≤ R.slots →
      ∀ (A : Nat → Prop) (H : Heap), (∀ q, s.heap.size ≤ q → A q) → va_P D vwCl W0 H → va_K D vwCl (TY z) s → va_D A W0 → va_S A s.heap H [] → E A s → Q = MQ below (va_Qi post (fun u t => AT D z (W1 u) A t) A) args s mc ms A → ∀ ls : Array Slot, lv_has ls maxL (lv_args 0 as) → W p l e R s m args below meth c H [] 0 0 Q (F0 m 0 ls [])) :
    CI l y wsy fr lo mc ms as D z W0 sz E post W1 :=
  met_of (Qc := fun A => va_Qi post (fun u t => AT D z (W1 u) A t) A) hy hw hlen (fun p e s m below meth c h1 h2 h3 h4 h5 h6 h7 h8 A hA hP hK hD hS hE ls hl => body p e s m as.toArray below meth c _ _ h1 h2 h3 h4 h5 h6 h7 h8 (Nat.le_refl _) (Nat.le_refl _) (Nat.le_refl _) (Nat.le_refl _) (Nat.zero_le _) (Nat.zero_le _) A _ hA hP hK hD hS hE rfl ls hl)
theorem met_v {l : Launch} {y : MethodName} {wsy ws' : List Cond} {fr lo : Nat} {as : List Value} {D : va_G} {z : ClassId × ClassId × ClassId} {W0 : va_W} {sz : Nat} {E : (Nat → Prop) → State → Prop} {S : Type} {post : S → Prop} {W1 : S → va_W} {mc ms : Nat} (cc : ByteArray) (maxL : Nat)
    (hy : plainName y.cls = true) (hw : wsy = Cond.code y cc maxL none :: ws') (hlen : (lg_sl as).length ≤ maxL)
    (body : ∀ (p : Program) (e : Env) (s : State) (m : MethodId) (args : Array Value) (below : List Frame) (meth : Method) (c : Code) (R : Room) (Q : State → Prop), p.tables.exec = Jvm.exec → c.code = cc → meth.sig.returnType = none → c.maxLocals = maxL → (∀ w ∈ wsy, w.before args s = true) → s.vm.findClass y.cls = some m.cls → meth.locks = false → meth.name = y.name → fr ≤ R.frames → lo ≤ R.locals → mc ≤ R.cells → ms ≤ R.slots → 0 ≤ R.cells → 0 ≤ R.slots →
      ∀ (A : Nat → Prop) (H : Heap), (∀ q, s.heap.size ≤ q → A q) → va_P D vwCl W0 H → va_K D vwCl (TY z) s → va_D A W0 → va_S A s.heap H [] → E A s → Q = MQ below (va_Qv post (fun u t => AT D z (W1 u) A t) A) args s mc ms A → ∀ ls : Array Slot, lv_has ls maxL (lv_args 0 as) → W p l e R s m args below meth c H [] 0 0 Q (F0 m 0 ls [])) :
    CV l y wsy fr lo mc ms as D z W0 sz E post W1 :=
  met_of (Qc := fun A => va_Qv post (fun u t => AT D z (W1 u) A t) A) hy hw hlen (fun p e s m below meth c h1 h2 h3 h4 h5 h6 h7 h8 A hA hP hK hD hS hE ls hl => body p e s m as.toArray below meth c _ _ h1 h2 h3 h4 h5 h6 h7 h8 (Nat.le_refl _) (Nat.le_refl _) (Nat.le_refl _) (Nat.le_refl _) (Nat.zero_le _) (Nat.zero_le _) A _ hA hP hK hD hS hE rfl ls hl)
section ZZ
variable {p : Program} {l : Launch} {e : Env} {R : Room} {s : State} {m : MethodId} {args : Array Value} {below : List Frame} {meth : Method} {c : Code} {H : Heap} {locs : List Loc} {cells slots : Nat} {Q : State → Prop}
variable {cc : ByteArray} {pc : Nat} {ls : Array Slot} {rest st0 : List Value} {D : va_G} {z : ClassId × ClassId × ClassId} {A : Nat → Prop} {a : Array Value} {ws : va_W} {S : Type}
/-- behind a call with an int: the world in its own order again -/
theorem call_i {mc ms : Nat} {wc : va_W} (wr : va_W) {w1 : S → va_W} (w2 : S → va_W) {post : Int32 → S → Prop} (hr : va_Run p l e R s m args below meth c H locs cells slots mc ms (F0 m pc ls st0) rest (va_Qi post (fun u t => AT D z (w1 u) (va_A wc H.size) t) (va_A wc H.size) a) (va_A wc H.size))
    (hK : va_K D vwCl (TY z) s) (hP : va_P D vwCl ws H) (hD : va_D A ws) (hS : va_S A s.heap H locs) (hA : ∀ q, s.heap.size ≤ q → A q) (isC isR isP : List Nat) (hC : isC.map (fun i => ws[i]?) = wc.map some) (hR : isR.map (fun i => ws[i]?) = wr.map some) (hn : va_nd isR = true) (hdis : ∀ i ∈ isR, i ∉ isC) (hnp : va_nd isP = true) (hO : ∀ u, isP.map (fun i => (wr ++ w1 u)[i]?) = (w2 u).map some)
    (kk : ∀ (r : Int32) (u : S) (H1 : Heap) (locs1 : List Loc), post r u → va_P D vwCl (w2 u) H1 → va_D A (w2 u) → va_S A s.heap H1 locs1 → W p l e R s m args below meth c H1 locs1 (cells + mc) (slots + ms) Q (F0 m (pc + 3) ls (.int r :: rest))) : W p l e R s m args below meth c H locs cells slots Q (F0 m pc ls st0) := by
  have hF := va_free (wc := wc) hD hS hA isC hC
  refine va_calli hr hS (fun q _ h => hF q h) hF (fun r u t H1 locs1 ht hvm hp hB hz hk hS1 => ?_)
  obtain ⟨hP1, hK1, hD1⟩ := hB
  rw [ht] at hP1
  obtain ⟨hP2, hD2⟩ := va_join (wr := wr) (w1 := w1 u) hP hD isC isR hC hR hn hdis hk hF hP1 hD1
  have hO1 := hO u
  refine kk r u H1 locs1 hp (fun k q hk2 => ?_) (hD2.sub isP hnp hO1) hS1
  have h1 : (isP.map (fun i => (wr ++ w1 u)[i]?))[k]? = some (some q) := by rw [hO1, List.getElem?_map, hk2]; rfl
  rw [List.getElem?_map] at h1
  cases hi : isP[k]? with
  | none => rw [hi] at h1; cases h1
  | some i => rw [hi] at h1; exact hP2 i q (Option.some.inj h1)
theorem call_v {mc ms : Nat} {wc : va_W} (wr : va_W) {w1 : S → va_W} (w2 : S → va_W) {post : S → Prop} (hr : va_Run p l e R s m args below meth c H locs cells slots mc ms (F0 m pc ls st0) rest (va_Qv post (fun u t => AT D z (w1 u) (va_A wc H.size) t) (va_A wc H.size) a) (va_A wc H.size))
    (hK : va_K D vwCl (TY z) s) (hP : va_P D vwCl ws H) (hD : va_D A ws) (hS : va_S A s.heap H locs) (hA : ∀ q, s.heap.size ≤ q → A q) (isC isR isP : List Nat) (hC : isC.map (fun i => ws[i]?) = wc.map some) (hR : isR.map (fun i => ws[i]?) = wr.map some) (hn : va_nd isR = true) (hdis : ∀ i ∈ isR, i ∉ isC) (hnp : va_nd isP = true) (hO : ∀ u, isP.map (fun i => (wr ++ w1 u)[i]?) = (w2 u).map some)
    (kk : ∀ (u : S) (H1 : Heap) (locs1 : List Loc), post u → va_P D vwCl (w2 u) H1 → va_D A (w2 u) → va_S A s.heap H1 locs1 → W p l e R s m args below meth c H1 locs1 (cells + mc) (slots + ms) Q (F0 m (pc + 3) ls rest)) : W p l e R s m args below meth c H locs cells slots Q (F0 m pc ls st0) := by
  have hF := va_free (wc := wc) hD hS hA isC hC
  refine va_callv hr hS (fun q _ h => hF q h) hF (fun u t H1 locs1 ht hvm hp hB hz hk hS1 => ?_)
  obtain ⟨hP1, hK1, hD1⟩ := hB
  rw [ht] at hP1
  obtain ⟨hP2, hD2⟩ := va_join (wr := wr) (w1 := w1 u) hP hD isC isR hC hR hn hdis hk hF hP1 hD1
  have hO1 := hO u
  refine kk u H1 locs1 hp (fun k q hk2 => ?_) (hD2.sub isP hnp hO1) hS1
  have h1 : (isP.map (fun i => (wr ++ w1 u)[i]?))[k]? = some (some q) := by rw [hO1, List.getElem?_map, hk2]; rfl
  rw [List.getElem?_map] at h1
  cases hi : isP[k]? with
  | none => rw [hi] at h1; cases h1
  | some i => rw [hi] at h1; exact hP2 i q (Option.some.inj h1)
variable {y : MethodName} {bytes : ByteArray} {maxL nL mc ms n index : Nat} {ret : Option FieldType} {wsy : List Cond} {rm : Room} {Qc : Array Value → State → Outcome → State → Prop} {Ts : List Cond} {own C host : String} {b : Addr} {As : List Value} {wc : va_W} {E E1 : (Nat → Prop) → State → Prop}
theorem pick_P (hP : va_P D vwCl ws H) (isC : List Nat) (hC : isC.map (fun i => ws[i]?) = wc.map some) : va_P D vwCl wc H := by
  intro k q hk2
  have h1 : (isC.map (fun i => ws[i]?))[k]? = some (some q) := by rw [hC, List.getElem?_map, hk2]; rfl
  rw [List.getElem?_map] at h1
  cases hi : isC[k]? with
  | none => rw [hi] at h1; cases h1
  | some i => rw [hi] at h1; exact hP i q (Option.some.inj h1)
theorem pre_w (hK : va_K D vwCl (TY z) s) (hP : va_P D vwCl ws H) (hD : va_D A ws) (isC : List Nat) (hnc : va_nd isC = true) (hC : isC.map (fun i => ws[i]?) = wc.map some) (hE1 : ∀ U : State, U.heap = H → s.WarmedH U.vm → E1 (va_A wc H.size) U) (as : List Value) : ∀ U : State, U.heap = H → s.WarmedH U.vm → va_Pc as (PW D z wc H.size E1) as.toArray U := by
  intro U hU hW
  refine ⟨rfl, by rw [hU], by rw [hU]; exact pick_P hP isC hC, va_K.moved hW.alike hK, (hD.sub isC hnc hC).weaken (fun _ _ _ _ => trivial), hE1 U hU hW⟩
theorem e_go (hE : EOK E) (q : E A s) (hD : va_D A ws) (hS : va_S A s.heap H locs) (hA : ∀ q, s.heap.size ≤ q → A q) (isC : List Nat) (hC : isC.map (fun i => ws[i]?) = wc.map some) : ∀ U : State, U.heap = H → s.WarmedH U.vm → E (va_A wc H.size) U := fun U hU hW => hE.2 A (va_A wc H.size) s U H locs q hS (va_free (wc := wc) hD hS hA isC hC) hU hW
theorem e_0 : ∀ U : State, U.heap = H → s.WarmedH U.vm → E0 (va_A wc H.size) U := fun _ _ _ => trivial
theorem rV (S0 : CallFix p m c cc nL s args Ts own) (hM : Met l y wsy rm (va_Pc (.ref b :: As) (PW D z wc H.size E1)) Qc mc ms (va_A wc H.size)) (cw : CallW R s args own C index y bytes maxL ret wsy rm mc ms n) (hOK : EOK E1) (hE1 : ∀ U : State, U.heap = H → s.WarmedH U.vm → E1 (va_A wc H.size) U)
    (hK : va_K D vwCl (TY z) s) (hP : va_P D vwCl ws H) (hD : va_D A ws) (isC : List Nat) (hnc : va_nd isC = true) (hC : isC.map (fun i => ws[i]?) = wc.map some) (hrecv : ∃ cellB : Cell, H[b]? = some cellB ∧ cellB.vm.isStatics = false ∧ s.vm.findClass C = some cellB.cls)
    (hn : As.length = n) (hsize : ls.size = nL) (hstack : st0 = As.reverse ++ .ref b :: rest) (hW : (rest.map fun v => v.category).sum ≤ 8) (hdg : decode cc pc = .ok (.invokevirtual index, 3)) (hf : cells + mc ≤ R.cells ∧ slots + ms ≤ R.slots) :
    va_Run p l e R s m args below meth c H locs cells slots mc ms (F0 m pc ls st0) rest (Qc (Value.ref b :: As).toArray) (va_A wc H.size) :=
  va_runV (As := As) (rest := rest) S0 hM cw ⟨pw_blind hOK _, hrecv, pre_w hK hP hD isC hnc hC hE1 _⟩ rfl hn hsize hstack (lv_room hW) hdg hf
theorem rS (S0 : CallFix p m c cc nL s args Ts own) (hM : Met l y wsy rm (va_Pc As (PW D z wc H.size E1)) Qc mc ms (va_A wc H.size)) (cw : CallB R s args own index y bytes maxL ret wsy rm mc ms n ∧ (Cond.static y).before args s = true) (hOK : EOK E1) (hE1 : ∀ U : State, U.heap = H → s.WarmedH U.vm → E1 (va_A wc H.size) U)
    (hK : va_K D vwCl (TY z) s) (hP : va_P D vwCl ws H) (hD : va_D A ws) (isC : List Nat) (hnc : va_nd isC = true) (hC : isC.map (fun i => ws[i]?) = wc.map some)
    (hn : As.length = n) (hsize : ls.size = nL) (hstack : st0 = As.reverse ++ rest) (hW : (rest.map fun v => v.category).sum ≤ 8) (hdg : decode cc pc = .ok (.invokestatic index, 3)) (hf : cells + mc ≤ R.cells ∧ slots + ms ≤ R.slots) :
    va_Run p l e R s m args below meth c H locs cells slots mc ms (F0 m pc ls st0) rest (Qc As.toArray) (va_A wc H.size) :=
  va_runS (As := As) (rest := rest) S0 hM cw ⟨pw_blind hOK _, pre_w hK hP hD isC hnc hC hE1 _⟩ rfl hn hsize hstack (lv_room hW) hdg hf
theorem rSN (S0 : CallFix p m c cc nL s args Ts own) (hM : Met l y wsy rm (va_Pc As (PW D z wc H.size E1)) Qc mc ms (va_A wc H.size)) (cw : va_CN R s args own index y host bytes maxL ret wsy rm mc ms n ∧ (Cond.static y).before args s = true ∧ True) (hOK : EOK E1) (hE1 : ∀ U : State, U.heap = H → s.WarmedH U.vm → E1 (va_A wc H.size) U)
    (hK : va_K D vwCl (TY z) s) (hP : va_P D vwCl ws H) (hD : va_D A ws) (isC : List Nat) (hnc : va_nd isC = true) (hC : isC.map (fun i => ws[i]?) = wc.map some)
    (hn : As.length = n) (hsize : ls.size = nL) (hstack : st0 = As.reverse ++ rest) (hW : (rest.map fun v => v.category).sum ≤ 8) (hdg : decode cc pc = .ok (.invokestatic index, 3)) (hf : cells + mc ≤ R.cells ∧ slots + ms ≤ R.slots) :
    va_Run p l e R s m args below meth c H locs cells slots mc ms (F0 m pc ls st0) rest (Qc As.toArray) (va_A wc H.size) :=
  va_runSN (As := As) (rest := rest) S0 hM cw ⟨pw_blind hOK _, pre_w hK hP hD isC hnc hC hE1 _⟩ rfl hn hsize hstack (lv_room hW) hdg hf
theorem rI (S0 : CallFix p m c cc nL s args Ts own) (hM : Met l y wsy rm (va_Pc (.ref b :: As) (PW D z wc H.size E1)) Qc mc ms (va_A wc H.size)) (cw : CallB R s args own index y bytes maxL none wsy rm mc ms n ∧ y.name = "<init>" ∧ (Cond.instanceMethod y).before args s = true) (hOK : EOK E1) (hE1 : ∀ U : State, U.heap = H → s.WarmedH U.vm → E1 (va_A wc H.size) U)
    (hK : va_K D vwCl (TY z) s) (hP : va_P D vwCl ws H) (hD : va_D A ws) (isC : List Nat) (hnc : va_nd isC = true) (hC : isC.map (fun i => ws[i]?) = wc.map some)
    (hn : As.length = n) (hsize : ls.size = nL) (hstack : st0 = As.reverse ++ .ref b :: rest) (hW : (rest.map fun v => v.category).sum ≤ 8) (hdg : decode cc pc = .ok (.invokespecial index, 3)) (hf : cells + mc ≤ R.cells ∧ slots + ms ≤ R.slots) :
    va_Run p l e R s m args below meth c H locs cells slots mc ms (F0 m pc ls st0) rest (Qc (Value.ref b :: As).toArray) (va_A wc H.size) :=
  va_runI (As := As) (rest := rest) S0 hM cw ⟨pw_blind hOK _, pre_w hK hP hD isC hnc hC hE1 _⟩ rfl hn hsize hstack (lv_room hW) hdg hf
theorem rIN (S0 : CallFix p m c cc nL s args Ts own) (hM : Met l y wsy rm (va_Pc (.ref b :: As) (PW D z wc H.size E1)) Qc mc ms (va_A wc H.size)) (cw : va_CN R s args own index y host bytes maxL none wsy rm mc ms n ∧ y.name = "<init>" ∧ (Cond.instanceMethod y).before args s = true) (hOK : EOK E1) (hE1 : ∀ U : State, U.heap = H → s.WarmedH U.vm → E1 (va_A wc H.size) U)
    (hK : va_K D vwCl (TY z) s) (hP : va_P D vwCl ws H) (hD : va_D A ws) (isC : List Nat) (hnc : va_nd isC = true) (hC : isC.map (fun i => ws[i]?) = wc.map some)
    (hn : As.length = n) (hsize : ls.size = nL) (hstack : st0 = As.reverse ++ .ref b :: rest) (hW : (rest.map fun v => v.category).sum ≤ 8) (hdg : decode cc pc = .ok (.invokespecial index, 3)) (hf : cells + mc ≤ R.cells ∧ slots + ms ≤ R.slots) :
    va_Run p l e R s m args below meth c H locs cells slots mc ms (F0 m pc ls st0) rest (Qc (Value.ref b :: As).toArray) (va_A wc H.size) :=
  va_runIN (As := As) (rest := rest) S0 hM cw ⟨pw_blind hOK _, pre_w hK hP hD isC hnc hC hE1 _⟩ rfl hn hsize hstack (lv_room hW) hdg hf
/-- the ends -/
theorem ret_i {post : Int32 → S → Prop} {w1 : S → va_W} (u : S) {v : Int32} (hx : p.tables.exec = Jvm.exec) (hb : c.code = cc) (hr : meth.sig.returnType = some .int) (hK : va_K D vwCl (TY z) s) (hP : va_P D vwCl ws H) (hD : va_D A ws) (hS : va_S A s.heap H locs) (hw : ws = w1 u) (hp : post v u) (hdg : decode cc pc = .ok (.ireturn, 1)) (hlocks : meth.locks = false) :
    W p l e R s m args below meth c H locs cells slots (MQ below (va_Qi post (fun u t => AT D z (w1 u) A t) A) args s cells slots A) (F0 m pc ls [.int v]) := by
  subst hw
  exact W.iret (v := v) hx hb hr (fun t ht hW => ⟨⟨v, u, rfl, hp, by rw [ht]; exact hP, va_K.moved hW.alike hK, hD⟩, hS.F ht⟩) hS.2.2 hdg hlocks
theorem ret_z {post : Int32 → S → Prop} {w1 : S → va_W} (u : S) {v : Int32} {ty : FieldType} (hx : p.tables.exec = Jvm.exec) (hb : c.code = cc) (hr : meth.sig.returnType = some ty) (hn : narrow ty (.int v) = .int v) (hK : va_K D vwCl (TY z) s) (hP : va_P D vwCl ws H) (hD : va_D A ws) (hS : va_S A s.heap H locs) (hw : ws = w1 u) (hp : post v u) (hdg : decode cc pc = .ok (.ireturn, 1)) (hlocks : meth.locks = false) :
    W p l e R s m args below meth c H locs cells slots (MQ below (va_Qi post (fun u t => AT D z (w1 u) A t) A) args s cells slots A) (F0 m pc ls [.int v]) := by
  subst hw
  exact W.zret (v := v) hx hb hr hn (fun t ht hW => ⟨⟨v, u, rfl, hp, by rw [ht]; exact hP, va_K.moved hW.alike hK, hD⟩, hS.F ht⟩) hS.2.2 hdg hlocks
theorem ret_v {post : S → Prop} {w1 : S → va_W} (u : S) (hx : p.tables.exec = Jvm.exec) (hb : c.code = cc) (hr : meth.sig.returnType = none) (hK : va_K D vwCl (TY z) s) (hP : va_P D vwCl ws H) (hD : va_D A ws) (hS : va_S A s.heap H locs) (hw : ws = w1 u) (hp : post u) (hdg : decode cc pc = .ok (.return_, 1)) (hlocks : meth.locks = false) :
    W p l e R s m args below meth c H locs cells slots (MQ below (va_Qv post (fun u t => AT D z (w1 u) A t) A) args s cells slots A) (F0 m pc ls []) := by
  subst hw
  exact W.vret hx hb hr (fun t ht hW => ⟨⟨u, rfl, hp, by rw [ht]; exact hP, va_K.moved hW.alike hK, hD⟩, hS.F ht⟩) hS.2.2 hdg hlocks
/-- rows of numbers, read and written at a place that is told as a natural -/
theorem iald_k (hx : p.tables.exec = Jvm.exec) (hb : c.code = cc) (hK : va_K D vwCl (TY z) s) (hP : va_P D vwCl ws H) (q0 : Nat) {a n : Nat} {f : Nat → Int32} (ha : ws[q0]? = some (a, .inl (z.1, n, .inl f))) (k : Nat) {i : Int32} (hin : vp_in i n ∧ i.toNatClampNeg = k) (hdg : decode cc pc = .ok (.iaload, 1))
    (kk : W p l e R s m args below meth c H locs cells slots Q (F0 m (pc + 1) ls (.int (f k) :: rest))) : W p l e R s m args below meth c H locs cells slots Q (F0 m pc ls (.int i :: .ref a :: rest)) := by
  obtain ⟨h1, h2⟩ := hin
  subst h2
  exact va_iald hx hb hK hP q0 0 ha rfl h1 hdg kk
theorem cald_k (hx : p.tables.exec = Jvm.exec) (hb : c.code = cc) (hK : va_K D vwCl (TY z) s) (hP : va_P D vwCl ws H) (q0 : Nat) {a n : Nat} {f : Nat → Int32} (ha : ws[q0]? = some (a, .inl (z.2.1, n, .inl f))) (k : Nat) {i : Int32} (hin : vp_in i n ∧ i.toNatClampNeg = k) (hdg : decode cc pc = .ok (.caload, 1))
    (kk : W p l e R s m args below meth c H locs cells slots Q (F0 m (pc + 1) ls (.int (f k) :: rest))) : W p l e R s m args below meth c H locs cells slots Q (F0 m pc ls (.int i :: .ref a :: rest)) := by
  obtain ⟨h1, h2⟩ := hin
  subst h2
  exact va_cald hx hb hK hP q0 1 ha rfl h1 hdg kk
theorem iast_k (hx : p.tables.exec = Jvm.exec) (hb : c.code = cc) (hK : va_K D vwCl (TY z) s) (hP : va_P D vwCl ws H) (hD : va_D A ws) (hS : va_S A s.heap H locs) (q0 : Nat) {a n : Nat} {f : Nat → Int32} (ha : ws[q0]? = some (a, .inl (z.1, n, .inl f))) (k : Nat) {i x : Int32} (hin : vp_in i n ∧ i.toNatClampNeg = k) (hdg : decode cc pc = .ok (.iastore, 1))
    (kk : ∀ (H1 : Heap) (locs1 : List Loc), va_P D vwCl (ws.set q0 (a, .inl (z.1, n, .inl (upd f k x)))) H1 → va_D A (ws.set q0 (a, .inl (z.1, n, .inl (upd f k x)))) → va_S A s.heap H1 locs1 → W p l e R s m args below meth c H1 locs1 cells slots Q (F0 m (pc + 1) ls rest)) : W p l e R s m args below meth c H locs cells slots Q (F0 m pc ls (.int x :: .int i :: .ref a :: rest)) := by
  obtain ⟨h1, h2⟩ := hin
  subst h2
  exact va_iast hx hb hK hP hD hS q0 0 ha rfl h1 hdg kk
theorem cast_k (hx : p.tables.exec = Jvm.exec) (hb : c.code = cc) (hK : va_K D vwCl (TY z) s) (hP : va_P D vwCl ws H) (hD : va_D A ws) (hS : va_S A s.heap H locs) (q0 : Nat) {a n : Nat} {f : Nat → Int32} (ha : ws[q0]? = some (a, .inl (z.2.1, n, .inl f))) (k : Nat) {i x : Int32} (hin : vp_in i n ∧ i.toNatClampNeg = k) (hdg : decode cc pc = .ok (.castore, 1))
    (kk : ∀ (H1 : Heap) (locs1 : List Loc), va_P D vwCl (ws.set q0 (a, .inl (z.2.1, n, .inl (upd f k (vp_nar .char x))))) H1 → va_D A (ws.set q0 (a, .inl (z.2.1, n, .inl (upd f k (vp_nar .char x))))) → va_S A s.heap H1 locs1 → W p l e R s m args below meth c H1 locs1 cells slots Q (F0 m (pc + 1) ls rest)) : W p l e R s m args below meth c H locs cells slots Q (F0 m pc ls (.int x :: .int i :: .ref a :: rest)) := by
  obtain ⟨h1, h2⟩ := hin
  subst h2
  exact va_cast hx hb hK hP hD hS q0 1 ha rfl h1 hdg kk
/-- a new row of numbers, of the kind that the tables name -/
theorem newi_k (hx : p.tables.exec = Jvm.exec) (hb : c.code = cc) (harr : (Cond.arrayClass .int).before args s = true) (hK : va_K D vwCl (TY z) s) (hP : va_P D vwCl ws H) (hD : va_D A ws) (hS : va_S A s.heap H locs) (hA : ∀ q, s.heap.size ≤ q → A q)
    {n : Int32} (N' : Nat) (hn : ¬ n < 0) (hN : n.toNatClampNeg = N') (hbytes : N' * componentBytes .int ≤ 536870912) (hcells : cells + 1 ≤ R.cells) (hslots : slots + N' ≤ R.slots) (hdg : decode cc pc = .ok (.newarray .int, 2))
    (kk : ∀ (q : Nat) (H1 : Heap), va_P D vwCl (ws ++ [(q, .inl (z.1, N', .inl (fun _ => 0)))]) H1 → va_D A (ws ++ [(q, .inl (z.1, N', .inl (fun _ => 0)))]) → va_S A s.heap H1 locs → W p l e R s m args below meth c H1 locs (cells + 1) (slots + N') Q (F0 m (pc + 2) ls (.ref q :: rest))) : W p l e R s m args below meth c H locs cells slots Q (F0 m pc ls (.int n :: rest)) := by
  refine va_newa (atype := .int) (ty := .int) (N' := N') (a0 := (N', .inl (fun _ => 0))) hx hb harr rfl hK hP hD hS hA (fun _ => rfl) hn hN hbytes hcells hslots hdg (fun q cA H1 hK1 hP1 hD1 hS1 => ?_)
  have e1 : s.vm.findClass ("[" ++ FieldType.int.toString) = some cA := (hK1.2 3 _ rfl).2
  have e2 : s.vm.findClass ("[" ++ FieldType.int.toString) = some z.1 := (hK1.2 0 _ rfl).2
  have e3 : cA = z.1 := Option.some.inj (e1.symm.trans e2)
  subst e3
  exact kk q H1 hP1 hD1 hS1
theorem newc_k (hx : p.tables.exec = Jvm.exec) (hb : c.code = cc) (harr : (Cond.arrayClass .char).before args s = true) (hK : va_K D vwCl (TY z) s) (hP : va_P D vwCl ws H) (hD : va_D A ws) (hS : va_S A s.heap H locs) (hA : ∀ q, s.heap.size ≤ q → A q)
    {n : Int32} (N' : Nat) (hn : ¬ n < 0) (hN : n.toNatClampNeg = N') (hbytes : N' * componentBytes .char ≤ 536870912) (hcells : cells + 1 ≤ R.cells) (hslots : slots + N' ≤ R.slots) (hdg : decode cc pc = .ok (.newarray .char, 2))
    (kk : ∀ (q : Nat) (H1 : Heap), va_P D vwCl (ws ++ [(q, .inl (z.2.1, N', .inl (fun _ => 0)))]) H1 → va_D A (ws ++ [(q, .inl (z.2.1, N', .inl (fun _ => 0)))]) → va_S A s.heap H1 locs → W p l e R s m args below meth c H1 locs (cells + 1) (slots + N') Q (F0 m (pc + 2) ls (.ref q :: rest))) : W p l e R s m args below meth c H locs cells slots Q (F0 m pc ls (.int n :: rest)) := by
  refine va_newa (atype := .char) (ty := .char) (N' := N') (a0 := (N', .inl (fun _ => 0))) hx hb harr rfl hK hP hD hS hA (fun _ => rfl) hn hN hbytes hcells hslots hdg (fun q cA H1 hK1 hP1 hD1 hS1 => ?_)
  have e1 : s.vm.findClass ("[" ++ FieldType.char.toString) = some cA := (hK1.2 3 _ rfl).2
  have e2 : s.vm.findClass ("[" ++ FieldType.char.toString) = some z.2.1 := (hK1.2 1 _ rfl).2
  have e3 : cA = z.2.1 := Option.some.inj (e1.symm.trans e2)
  subst e3
  exact kk q H1 hP1 hD1 hS1
end ZZ
/-! small numbers -/
theorem ix_of {i : Int32} {k n : Nat} (h : i = nI k) (hk : k < n) (hn : n < 2 ^ 31) : vp_in i n ∧ i.toNatClampNeg = k := by
  subst h
  exact ⟨vp_in_nI hk hn, nI_clamp (Nat.lt_trans hk hn)⟩
theorem ix_vp {i : Int32} {n : Nat} (h : vp_in i n) : vp_in i n ∧ i.toNatClampNeg = i.toNatClampNeg := ⟨h, rfl⟩
theorem nadd {x y : Int32} {a b : Nat} (hx : x = nI a) (hy : y = nI b) : x + y = nI (a + b) := by rw [hx, hy, nI_add]
theorem nmul {x y : Int32} {a b : Nat} (hx : x = nI a) (hy : y = nI b) : x * y = nI (a * b) := by rw [hx, hy, pk_mul]
theorem nsub {x y : Int32} {a b : Nat} (hx : x = nI a) (hy : y = nI b) (h : b ≤ a) : x - y = nI (a - b) := by rw [hx, hy, pk_sub h]
theorem i_ne {x y : Int32} (h : ¬ x = y) : x.toInt ≠ y.toInt := fun e => h (Int32.toInt_inj.mp e)
theorem nI_d {a : Nat} (h : 0 < a) : nI a + (-1) = nI (a - 1) := by
  obtain ⟨b, rfl⟩ : ∃ b, a = b + 1 := ⟨a - 1, by omega⟩
  rw [pk_m1]; rfl
theorem pe {α β : Type} {a : α} {b : β} {x : α × β} (h : (a, b) = x) : a = x.1 ∧ b = x.2 := by subst h; exact ⟨rfl, rfl⟩
theorem bz {r : Int32} (h : r = 0 ∨ r = 1) : narrow .boolean (.int r) = .int r := by rcases h with rfl | rfl <;> rfl
theorem bz_fit {r : Int32} (h : r = 0 ∨ r = 1) : fits .boolean (.int r) = true := by rcases h with rfl | rfl <;> rfl
theorem arrV_ext (cI : ClassId) (N : Nat) {f g : Nat → Value} (h : ∀ j, j < N → f j = g j) : arrV cI N f = arrV cI N g := by
  unfold arrV
  congr 1
  apply Array.ext
  · simp
  · intro i h1 h2
    simp only [Array.getElem_ofFn]
    exact h i (by simpa using h1)
theorem at_cells {D : va_G} {cl : List vw_C} {a : Nat} {cA : ClassId} {n : Nat} {f g : Nat → Int32} {H : Heap} (h : ∀ j, j < n → f j = g j) (q : va_at D cl (a, .inl (cA, n, .inl f)) H) : va_at D cl (a, .inl (cA, n, .inl g)) H := by
  show H[a]? = some (vp_cell cA (n, .inl g))
  rw [vp_cell_i, ← arrV_ext cA n (f := fun j => .int (f j)) (g := fun j => .int (g j)) (fun j hj => by rw [h j hj])]
  exact q
theorem P_ext {D : va_G} {cl : List vw_C} {A : Nat → Prop} {ws : va_W} {q a : Nat} {cA : ClassId} {n : Nat} {f g : Nat → Int32} {e0 : va_E} {H : Heap} (he : ws[q]? = some (a, e0)) (h : ∀ j, j < n → f j = g j) (hP : va_P D cl (ws.set q (a, .inl (cA, n, .inl f))) H) (hD : va_D A (ws.set q (a, .inl (cA, n, .inl f)))) : va_P D cl (ws.set q (a, .inl (cA, n, .inl g))) H ∧ va_D A (ws.set q (a, .inl (cA, n, .inl g))) := by
  have hl := (List.getElem?_eq_some_iff.mp he).1
  refine ⟨fun k x hk => ?_, ?_⟩
  · by_cases hkq : k = q
    · subst hkq
      rw [List.getElem?_set_self hl] at hk
      cases hk
      exact at_cells h (hP k _ (List.getElem?_set_self hl))
    · rw [List.getElem?_set_ne (Ne.symm hkq)] at hk
      exact hP k x (by rw [List.getElem?_set_ne (Ne.symm hkq)]; exact hk)
  · have h2 := hD.set (p := q) (a := a) (e0 := .inl (cA, n, .inl f)) (e := .inl (cA, n, .inl g)) (List.getElem?_set_self hl)
    rwa [List.set_set] at h2
section ZC
variable {p : Program} {l : Launch} {e : Env} {R : Room} {s : State} {m : MethodId} {args : Array Value} {below : List Frame} {meth : Method} {c : Code} {H : Heap} {locs : List Loc} {cells slots : Nat} {Q : State → Prop}
variable {cc : ByteArray} {pc : Nat} {ls : Array Slot} {rest : List Value} {D : va_G} {z : ClassId × ClassId × ClassId} {A : Nat → Prop} {ws : va_W}
/-- a whole row of numbers into another one of its length -/
theorem copy_k (hx : p.tables.exec = Jvm.exec) (hb : c.code = cc) (hml : c.maxLocals = ls.size) {own : String} {index : Nat} (hown : s.vm.findClass own = some m.cls) (hlink : (Cond.methodLink own index arraycopyName).before args s = true) (hnat : (Cond.native arraycopyName).before args s = true) (hstat : (Cond.static arraycopyName).before args s = true) (hini : (Cond.initialized "java/lang/System").before args s = true)
    (hK : va_K D vwCl (TY z) s) (hP : va_P D vwCl ws H) (hD : va_D A ws) (hS : va_S A s.heap H locs) (q0 q1 N : Nat) {a0 a : Nat} {f g : Nat → Int32} {n : Int32} (ha0 : ws[q0]? = some (a0, .inl (z.1, N, .inl f))) (ha1 : ws[q1]? = some (a, .inl (z.1, N, .inl g))) (hn : ¬ n < 0) (hN : n.toNatClampNeg = N)
    (hframes : 1 ≤ R.frames) (hlocals : (rest.map fun v => v.category).sum + (nativeFrameWords "java/lang/System" "arraycopy" 5 + 11) ≤ R.locals) (hdg : decode cc pc = .ok (.invokestatic index, 3))
    (kk : ∀ (H1 : Heap) (locs1 : List Loc), va_P D vwCl (ws.set q1 (a, .inl (z.1, N, .inl f))) H1 → va_D A (ws.set q1 (a, .inl (z.1, N, .inl f))) → va_S A s.heap H1 locs1 → W p l e R s m args below meth c H1 locs1 cells slots Q (F0 m (pc + 3) ls rest)) : W p l e R s m args below meth c H locs cells slots Q (F0 m pc ls (.int n :: .int 0 :: .ref a :: .int 0 :: .ref a0 :: rest)) := by
  refine va_copyi (ty := .int) hx hb hml hown hlink hnat hstat hini hK hP hD hS q0 q1 0 0 ha0 ha1 rfl rfl rfl (by decide) (by decide) hn (by rw [hN]; show 0 + N ≤ N; omega) (by rw [hN]; show 0 + N ≤ N; omega) (fun _ _ => rfl) hframes hlocals hdg (fun H1 locs1 hP1 hD1 hS1 => ?_)
  obtain ⟨h1, h2⟩ := P_ext (g := f) ha1 (fun j hj => by show va_cpy f g 0 0 n.toNatClampNeg j = f j; rw [hN, pk_cpy_in (Nat.zero_le _) (by omega)]; congr 1; omega) hP1 hD1
  exact kk H1 locs1 h1 h2 hS1
end ZC
theorem nI_dc {a c : Nat} (h : c ≤ a) : nI a + Int32.ofInt (-(c : Int)) = nI (a - c) := by
  obtain ⟨b, rfl⟩ : ∃ b, a = b + c := ⟨a - c, by omega⟩
  rw [Nat.add_sub_cancel, ← nI_add, Int32.add_assoc]
  have : nI c + Int32.ofInt (-(c : Int)) = 0 := by
    show Int32.ofInt (c : Int) + Int32.ofInt (-(c : Int)) = 0
    rw [← Int32.ofInt_add, show ((c : Int) + -(c : Int)) = 0 by omega]; rfl
  rw [this, Int32.add_zero]
theorem ndiv {x y : Int32} {a b : Nat} (hx : x = nI a) (hy : y = nI b) (ha : a < 2 ^ 31) (h0 : 0 < b) (hb : b < 2 ^ 31) : x / y = nI (a / b) := by rw [hx, hy, pk_div ha h0 hb]
theorem nrem {x y : Int32} {a b : Nat} (hx : x = nI a) (hy : y = nI b) (ha : a < 2 ^ 31) (h0 : 0 < b) (hb : b < 2 ^ 31) : x - x / y * y = nI (a % b) := by rw [hx, hy, pk_rem ha h0 hb]
theorem vp_rg {x : Int32} (n : Nat) {N : Int32} (h1 : ¬ x < 0) (h2 : ¬ N ≤ x) (hN : N.toInt = n) : vp_in x n := by
  rw [vp_in_iff]
  have h3 := Int32.not_lt.mp h1
  have h4 := Int32.not_le.mp h2
  rw [Int32.le_iff_toInt_le] at h3
  rw [Int32.lt_iff_toInt_lt, hN] at h4
  exact ⟨h3, h4⟩
section ZD
variable {p : Program} {l : Launch} {e : Env} {R : Room} {s : State} {m : MethodId} {args : Array Value} {below : List Frame} {meth : Method} {c : Code} {H : Heap} {locs : List Loc} {cells slots : Nat} {Q : State → Prop}
variable {cc : ByteArray} {pc : Nat} {ls : Array Slot} {rest : List Value} {D : va_G} {z : ClassId × ClassId × ClassId} {A : Nat → Prop} {ws : va_W}
theorem iald_e (hx : p.tables.exec = Jvm.exec) (hb : c.code = cc) (hK : va_K D vwCl (TY z) s) (hP : va_P D vwCl ws H) (q0 : Nat) {a n : Nat} {f : Nat → Int32} (ha : ws[q0]? = some (a, .inl (z.1, n, .inl f))) (k : Nat) {x : Int32} (hv : f k = x) {i : Int32} (hin : vp_in i n ∧ i.toNatClampNeg = k) (hdg : decode cc pc = .ok (.iaload, 1))
    (kk : W p l e R s m args below meth c H locs cells slots Q (F0 m (pc + 1) ls (.int x :: rest))) : W p l e R s m args below meth c H locs cells slots Q (F0 m pc ls (.int i :: .ref a :: rest)) := by
  subst hv
  exact iald_k hx hb hK hP q0 ha k hin hdg kk
end ZD
theorem nlt_iff {x y : Int32} {a b : Nat} (hx : x = nI a) (hy : y = nI b) (ha : a < 2 ^ 31) (hb : b < 2 ^ 31) : x < y ↔ a < b := by rw [hx, hy]; exact nI_ltI ha hb
theorem nle_iff {x y : Int32} {a b : Nat} (hx : x = nI a) (hy : y = nI b) (ha : a < 2 ^ 31) (hb : b < 2 ^ 31) : x ≤ y ↔ a ≤ b := by rw [hx, hy]; exact nI_leI ha hb
theorem neq_iff {x y : Int32} {a b : Nat} (hx : x = nI a) (hy : y = nI b) (ha : a < 2 ^ 31) (hb : b < 2 ^ 31) : x = y ↔ a = b := by rw [hx, hy]; exact nI_eq ha hb
theorem rg_nat {x : Int32} (n : Nat) {N : Int32} (h1 : ¬ x < 0) (h2 : ¬ N ≤ x) (hN : N = nI n) (hn : n < 2 ^ 31) : ∃ j, x = nI j ∧ j < n := by
  subst hN
  rcases pk_ix x hn with h | h | ⟨j, h, e⟩
  · exact absurd h h1
  · exact absurd h h2
  · exact ⟨j, e, h⟩
theorem nlit (n : Nat) : Int32.ofNat n = nI n := rfl
theorem nrf (n : Nat) : nI n = nI n := rfl
theorem nrem_any {x : Int32} {a : Nat} (hx : x = nI a) (ha : a < 2 ^ 31) : x - x / 3 * 3 = nI (a % 3) := nrem hx (nlit 3) ha (by decide) (by decide)
theorem vp_rgl {x : Int32} (n : Nat) {N : Int32} (h1 : ¬ x < 0) (h2 : x < N) (hN : N.toInt = n) : vp_in x n := vp_rg n h1 (fun h => by
  rw [Int32.lt_iff_toInt_lt] at h2
  rw [Int32.le_iff_toInt_le] at h
  omega) hN
