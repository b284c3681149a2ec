/-! the law's methods: their world is the class's object alone -/
theorem gN {wa : va_W} {n : Nat} (h : wa.length = n) : (List.range n).map (fun i => wa[i]?) = wa.map some := by
  subst h
  apply List.ext_getElem
  · simp
  · intro i h1 h2
    have h3 : i < wa.length := by simpa using h1
    rw [List.getElem_map, List.getElem_map, List.getElem_range, List.getElem?_eq_getElem h3]
theorem nd128 : va_nd (List.range 128) = true := by decide +kernel
set_option maxRecDepth 10000 in
theorem len9 {z : ClassId × ClassId × ClassId} {h : Nat} {a1 a2 a3 : Nat → Nat} {hh hh1 : Nat} {d0 d1 d2 d3 : Nat → Nat} {t9 t91 r9 r91 r92 r93 : Nat} {v : PV} : (wX9 z h a1 a2 a3 hh hh1 d0 d1 d2 d3 t9 t91 r9 r91 r92 r93 v).length = 128 := rfl
section LL
variable {p : Program} {l : Launch} {e : Env} {R : Room} {s : State} {m : MethodId} {args : Array Value} {below : List Frame} {meth : Method} {c : Code} {H : Heap} {locs : List Loc} {cells slots : Nat} {Q : State → Prop}
variable {pc : Nat} {ls : Array Slot} {rest st0 : List Value} {D : va_G} {z : ClassId × ClassId × ClassId} {A : Nat → Prop} {a : Array Value} {S : Type}
/-- a call whose callee's world is all there is -/
theorem call_W {wa : va_W} {w1 : S → va_W} {post : Int32 → S → Prop} (ha : wa.length = 128) (h1 : ∀ u, (w1 u).length = 128) (hr : va_Run p l e R s m args below meth c H locs cells slots 0 0 (F0 m pc ls st0) rest (va_Qi post (fun u t => AT D z (w1 u) (va_A wa H.size) t) (va_A wa H.size) a) (va_A wa H.size))
    (hK : va_K D vwCl (TY z) s) (hP : va_P D vwCl wa H) (hD : va_D A wa) (hS : va_S A s.heap H locs) (hA : ∀ q, s.heap.size ≤ q → A q)
    (kk : ∀ (r : Int32) (u : S) (H1 : Heap) (locs1 : List Loc), post r u → va_P D vwCl (w1 u) H1 → va_D A (w1 u) → va_S A s.heap H1 locs1 → W p l e R s m args below meth c H1 locs1 cells slots Q (F0 m (pc + 3) ls (.int r :: rest))) : W p l e R s m args below meth c H locs cells slots Q (F0 m pc ls st0) :=
  call_i [] w1 hr hK hP hD hS hA (List.range 128) [] (List.range 128) (gN ha) rfl rfl (fun i hi => absurd hi List.not_mem_nil) nd128 (fun u => by rw [List.nil_append]; exact gN (h1 u)) kk
/-- a call of a callee without a world -/
theorem call_0 {wa : va_W} {post : Int32 → S → Prop} (ha : wa.length = 128) (hr : va_Run p l e R s m args below meth c H locs cells slots 0 0 (F0 m pc ls st0) rest (va_Qi post (fun (_ : S) t => AT D z [] (va_A [] H.size) t) (va_A [] H.size) a) (va_A [] H.size))
    (hK : va_K D vwCl (TY z) s) (hP : va_P D vwCl wa H) (hD : va_D A wa) (hS : va_S A s.heap H locs) (hA : ∀ q, s.heap.size ≤ q → A q)
    (kk : ∀ (r : Int32) (u : S) (H1 : Heap) (locs1 : List Loc), post r u → va_P D vwCl wa H1 → va_D A wa → va_S A s.heap H1 locs1 → W p l e R s m args below meth c H1 locs1 cells slots Q (F0 m (pc + 3) ls (.int r :: rest))) : W p l e R s m args below meth c H locs cells slots Q (F0 m pc ls st0) :=
  call_i (wc := []) (w1 := fun _ => []) wa (fun _ => wa) hr hK hP hD hS hA [] (List.range 128) (List.range 128) rfl (gN ha) nd128 (fun i _ hi => absurd hi List.not_mem_nil) nd128 (fun u => by rw [List.append_nil]; exact gN ha) kk
end LL
/-- the law's own count of the shows that a print bears -/
def WH : Nat → Nat → Nat → Nat
  | 0, _, _ => 0
  | n + 1, w, m => if m ≤ 2 then 0 else if w + 5 < 40 then 1 + WH n (w + 5) m else 1 + WH n (w + 5 - 20) (m - 1)
theorem WH_s (n w m : Nat) : WH (n + 1) w m = if m ≤ 2 then 0 else if w + 5 < 40 then 1 + WH n (w + 5) m else 1 + WH n (w + 5 - 20) (m - 1) := rfl
def WHI (a b : Int32) : Int32 := nI (WH 200 a.toNatClampNeg b.toNatClampNeg)
theorem WHI_n {w m : Nat} (hw : w < 40) (hm : m < 18) : WHI (nI w) (nI m) = nI (WH 200 w m) := by
  unfold WHI
  rw [nI_clm (by omega), nI_clm (by omega)]
theorem wh_sl : ∀ w, w < 40 → ∀ m, m < 18 → WH 200 w m = (slL (m - 2) (w, 0)).2 := by decide +kernel
theorem reel_wm {v : PV} (hW : WOK v.1.1) (hM : MOK v.1.1) {k : Nat} (hk : k < 10) (h : ¬ f_X9_reel v (nI k) 0 = -10000001) : ∃ w m, w < 40 ∧ m < 18 ∧ f_X9_reel v (nI k) 2 = nI w ∧ f_X9_reel v (nI k) 1 = nI m := by
  have hg : ¬ v.1.1.1 k = -2 := fun z => h (by rw [reel_0 hk, if_pos z])
  obtain ⟨w, hw, ew⟩ := hW k hk
  obtain ⟨m, hm, em⟩ := hM k hk hg
  exact ⟨w, m, hw, hm, by rw [reel_2 hk hg]; exact ew, by rw [reel_1 hk hg]; exact em⟩
def IV (v : PV) : Prop := ∃ N, INV N v
theorem iv_n {v : PV} (h : IV v) : v.2.2.2.1.2.1 = nI v.2.2.2.1.2.1.toNatClampNeg ∧ v.2.2.2.1.2.1.toNatClampNeg < 4 := by
  obtain ⟨N, h⟩ := h
  exact inv_n h
theorem iv_w {v : PV} (h : IV v) : WOK v.1.1 := by
  obtain ⟨N, h⟩ := h
  exact ri_wok h.1.1
theorem iv_ls {v : PV} (h : IV v) : v.1.2.2.2.1.2.toInt ≤ 6 := by
  obtain ⟨N, h⟩ := h
  exact si_log h.1
theorem iv_show {v : PV} (h : IV v) (x : Int32) : IV (f_X9_show v x).2 := by
  obtain ⟨N, h⟩ := h
  exact ⟨N + 1, (p_show h x).2⟩
section WHL
variable {p : Program} {l : Launch} {e : Env} {R : Room} {s : State} {m : MethodId} {args : Array Value} {below : List Frame} {meth : Method} {c : Code} {H : Heap} {locs : List Loc} {cells slots : Nat} {Q : State → Prop}
variable {x0 x1 x2 x3 x4 : Value} {x5 : Int32}
theorem things_while_n (hx : p.tables.exec = Jvm.exec) (hb : c.code = cL_areThingsSo) : ∀ (n w m9 sh : Nat), w < 40 → m9 < 18 → 8 * m9 + (44 - w) / 5 ≤ n → ∀ ls : Array Slot, lv_has ls 9 [(8, .int (nI sh)), (7, .int (nI m9)), (6, .int (nI w)), (5, .int x5), (4, x4), (3, x3), (2, x2), (1, x1), (0, x0)] → (∀ (ls : Array Slot) (x6 x7 : Int32), lv_has ls 9 [(8, .int (nI (sh + WH n w m9))), (7, .int (x7)), (6, .int (x6)), (5, .int x5), (4, x4), (3, x3), (2, x2), (1, x1), (0, x0)] → W p l e R s m args below meth c H locs cells slots Q (F0 m 201 ls [])) → W p l e R s m args below meth c H locs cells slots Q (F0 m 151 ls []) := by
  intro n
  induction n with
  | zero =>
    intro w m9 sh hw hm hn ls hl kk
    refine lv_iload hx hb dL_areThingsSo_151 (lv_at hl 1 rfl) ?_
    refine lv_iconst (v := 2) hx hb dL_areThingsSo_153 (by decide) ?_
    refine lv_icmp_le (tgt := 201) hx hb dL_areThingsSo_154 (by decide) (fun _ => ?_) (fun c1 => absurd ((nle_iff (nrf m9) (nlit 2) (by omega) (by omega)).mpr (by omega)) c1)
    exact kk ls (nI w) (nI m9) hl
  | succ n ih =>
    intro w m9 sh hw hm hn ls hl kk
    refine lv_iload hx hb dL_areThingsSo_151 (lv_at hl 1 rfl) ?_
    refine lv_iconst (v := 2) hx hb dL_areThingsSo_153 (by decide) ?_
    by_cases c0 : m9 ≤ 2
    · refine lv_icmp_le (tgt := 201) hx hb dL_areThingsSo_154 (by decide) (fun _ => ?_) (fun c1 => absurd ((nle_iff (nrf m9) (nlit 2) (by omega) (by omega)).mpr c0) c1)
      exact kk ls (nI w) (nI m9) (by rw [WH_s, if_pos c0]; exact hl)
    · refine lv_icmp_le (tgt := 201) hx hb dL_areThingsSo_154 (by decide) (fun c1 => absurd ((nle_iff (nrf m9) (nlit 2) (by omega) (by omega)).mp c1) c0) (fun _ => ?_)
      refine lv_iinc (v := nI (sh + 1)) (lv' := [(8, .int (nI (sh + 1))), (7, .int (nI m9)), (6, .int (nI w)), (5, .int x5), (4, x4), (3, x3), (2, x2), (1, x1), (0, x0)]) hx hb dL_areThingsSo_157 hl (k := 0) rfl (nI_add sh 1) (by decide) rfl (fun ls hl => ?_)
      refine lv_iinc (v := nI (w + 5)) (lv' := [(6, .int (nI (w + 5))), (8, .int (nI (sh + 1))), (7, .int (nI m9)), (5, .int x5), (4, x4), (3, x3), (2, x2), (1, x1), (0, x0)]) hx hb dL_areThingsSo_160 hl (k := 2) rfl (nI_add w 5) (by decide) rfl (fun ls hl => ?_)
      refine lv_iload hx hb dL_areThingsSo_163 (lv_at hl 2 rfl) ?_
      refine lv_iload hx hb dL_areThingsSo_165 (lv_at hl 0 rfl) ?_
      refine lv_bipush (v := 40) hx hb dL_areThingsSo_167 (by decide) ?_
      have kc : nI (w + 5) < 40 ↔ w + 5 < 40 := nlt_iff (nrf (w + 5)) (nlit 40) (by omega) (by omega)
      by_cases c2 : w + 5 < 40
      · refine lv_icmp_lt (tgt := 176) hx hb dL_areThingsSo_169 (by decide) (fun _ => ?_) (fun c3 => absurd (kc.mpr c2) c3)
        refine lv_iconst (v := 0) hx hb dL_areThingsSo_176 (by decide) ?_
        refine lv_isub hx hb dL_areThingsSo_177 ?_
        refine lv_istore (lv' := [(7, .int (nI m9 - 0)), (6, .int (nI (w + 5))), (8, .int (nI (sh + 1))), (5, .int x5), (4, x4), (3, x3), (2, x2), (1, x1), (0, x0)]) hx hb dL_areThingsSo_178 hl (by decide) rfl (fun ls hl => ?_)
        refine lv_iload hx hb dL_areThingsSo_180 (lv_at hl 1 rfl) ?_
        refine lv_iload hx hb dL_areThingsSo_182 (lv_at hl 1 rfl) ?_
        refine lv_bipush (v := 40) hx hb dL_areThingsSo_184 (by decide) ?_
        refine lv_icmp_lt (tgt := 194) hx hb dL_areThingsSo_186 (by decide) (fun _ => ?_) (fun c3 => absurd (kc.mpr c2) c3)
        refine lv_iconst (v := 0) hx hb dL_areThingsSo_194 (by decide) ?_
        refine lv_isub hx hb dL_areThingsSo_195 ?_
        refine lv_istore (lv' := [(6, .int (nI (w + 5) - 0)), (7, .int (nI m9 - 0)), (8, .int (nI (sh + 1))), (5, .int x5), (4, x4), (3, x3), (2, x2), (1, x1), (0, x0)]) hx hb dL_areThingsSo_196 hl (by decide) rfl (fun ls hl => ?_)
        refine lv_goto (tgt := 151) hx hb dL_areThingsSo_198 (by decide) ?_
        rw [Int32.sub_zero, Int32.sub_zero] at hl
        exact ih (w + 5) (m9) (sh + 1) (by omega) (by omega) (by omega) ls (lv_sub hl [2, 1, 0, 3, 4, 5, 6, 7, 8] rfl) (fun ls x6 x7 hl => kk ls x6 x7 (by rw [WH_s, if_neg c0, if_pos c2, ← Nat.add_assoc]; exact hl))
      · refine lv_icmp_lt (tgt := 176) hx hb dL_areThingsSo_169 (by decide) (fun c3 => absurd (kc.mp c3) c2) (fun _ => ?_)
        refine lv_iconst (v := 1) hx hb dL_areThingsSo_172 (by decide) ?_
        refine lv_goto (tgt := 177) hx hb dL_areThingsSo_173 (by decide) ?_
        refine lv_isub hx hb dL_areThingsSo_177 ?_
        refine lv_istore (lv' := [(7, .int (nI m9 - 1)), (6, .int (nI (w + 5))), (8, .int (nI (sh + 1))), (5, .int x5), (4, x4), (3, x3), (2, x2), (1, x1), (0, x0)]) hx hb dL_areThingsSo_178 hl (by decide) rfl (fun ls hl => ?_)
        refine lv_iload hx hb dL_areThingsSo_180 (lv_at hl 1 rfl) ?_
        refine lv_iload hx hb dL_areThingsSo_182 (lv_at hl 1 rfl) ?_
        refine lv_bipush (v := 40) hx hb dL_areThingsSo_184 (by decide) ?_
        refine lv_icmp_lt (tgt := 194) hx hb dL_areThingsSo_186 (by decide) (fun c3 => absurd (kc.mp c3) c2) (fun _ => ?_)
        refine lv_bipush (v := 20) hx hb dL_areThingsSo_189 (by decide) ?_
        refine lv_goto (tgt := 195) hx hb dL_areThingsSo_191 (by decide) ?_
        refine lv_isub hx hb dL_areThingsSo_195 ?_
        refine lv_istore (lv' := [(6, .int (nI (w + 5) - 20)), (7, .int (nI m9 - 1)), (8, .int (nI (sh + 1))), (5, .int x5), (4, x4), (3, x3), (2, x2), (1, x1), (0, x0)]) hx hb dL_areThingsSo_196 hl (by decide) rfl (fun ls hl => ?_)
        refine lv_goto (tgt := 151) hx hb dL_areThingsSo_198 (by decide) ?_
        rw [show nI (w + 5) - 20 = nI (w + 5 - 20) from nsub (nrf (w + 5)) (nlit 20) (by omega), show nI m9 - 1 = nI (m9 - 1) from nsub (nrf m9) (nlit 1) (by omega)] at hl
        exact ih (w + 5 - 20) (m9 - 1) (sh + 1) (by omega) (by omega) (by omega) ls (lv_sub hl [2, 1, 0, 3, 4, 5, 6, 7, 8] rfl) (fun ls x6 x7 hl => kk ls x6 x7 (by rw [WH_s, if_neg c0, if_neg c2, ← Nat.add_assoc]; exact hl))
theorem things_while (hx : p.tables.exec = Jvm.exec) (hb : c.code = cL_areThingsSo) {w m9 : Nat} (hw : w < 40) (hm : m9 < 18) {ls : Array Slot} (hl : lv_has ls 9 [(8, .int (0)), (7, .int (nI m9)), (6, .int (nI w)), (5, .int x5), (4, x4), (3, x3), (2, x2), (1, x1), (0, x0)]) (kk : ∀ (ls : Array Slot) (x6 x7 : Int32), lv_has ls 9 [(8, .int (nI (WH 200 w m9))), (7, .int (x7)), (6, .int (x6)), (5, .int x5), (4, x4), (3, x3), (2, x2), (1, x1), (0, x0)] → W p l e R s m args below meth c H locs cells slots Q (F0 m 201 ls [])) : W p l e R s m args below meth c H locs cells slots Q (F0 m 151 ls []) := by
  obtain ⟨n, hn⟩ : ∃ n, n = 200 := ⟨_, rfl⟩
  rw [← hn] at kk
  exact things_while_n hx hb n w m9 0 hw hm (by omega) ls hl (fun ls x6 x7 hl => kk ls x6 x7 (by rw [Nat.zero_add] at hl; exact hl))
end WHL
