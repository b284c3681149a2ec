theorem mReel_n {s : Nat → Int32} {x : Int32} (h : ¬ f_X10_isReel s x = 0) : x = nI x.toNatClampNeg ∧ x.toNatClampNeg < 10 ∧ ¬ s (5 * x.toNatClampNeg + 0) = -2 := by
  unfold f_X10_isReel at h
  by_cases h1 : f_X10_in x 0 9 = 0
  · rw [if_pos h1] at h; exact absurd rfl h
  · obtain ⟨a, b⟩ := in_n (N := 9) 9 h1 rfl (by decide)
    rw [if_neg h1] at h
    refine ⟨a, by omega, fun h3 => ?_⟩
    rw [if_pos h3] at h
    exact absurd rfl h
theorem iX10_know_X10 : ∀ w ∈ wsX100, w ∈ wsX10_know := by decide +kernel
def f_X10_know_50_x (v : MV) (q50 : (Nat → Int32)) : (Nat → Int32) × Int32 := (q50, (v.2.2.2.1 + 1))
def st_X10_know_50 (v : MV) (k50 : Nat) (q50 : (Nat → Int32)) : (Nat → Int32) := (upd q50 ((108 * v.2.2.2.1.toNatClampNeg) + k50) (v.1 k50))
def lp_X10_know_50 (v : MV) (i0 : (Nat → Int32)) : Nat → (Nat → Int32)
  | 0 => i0
  | k + 1 => st_X10_know_50 v k (lp_X10_know_50 v i0 k)
theorem lp_X10_know_50_0 (v : MV) (i0 : (Nat → Int32)) : lp_X10_know_50 v i0 0 = i0 := rfl
theorem lp_X10_know_50_s (v : MV) (i0 : (Nat → Int32)) (k : Nat) : lp_X10_know_50 v i0 (k + 1) = st_X10_know_50 v k (lp_X10_know_50 v i0 k) := rfl
def f_X10_know_50b_x (v : MV) (q10 : (Nat → Int32)) (q50 : (Nat → Int32)) : (Nat → Int32) × Int32 := (q50, ((v.2.2.2.1 - 1) + 1))
def st_X10_know_50b (v : MV) (q10 : (Nat → Int32)) (k50 : Nat) (q50 : (Nat → Int32)) : (Nat → Int32) := (upd q50 ((108 * (v.2.2.2.1.toNatClampNeg - 1)) + k50) (v.1 k50))
def lp_X10_know_50b (v : MV) (q10 : (Nat → Int32)) (i0 : (Nat → Int32)) : Nat → (Nat → Int32)
  | 0 => i0
  | k + 1 => st_X10_know_50b v q10 k (lp_X10_know_50b v q10 i0 k)
theorem lp_X10_know_50b_0 (v : MV) (q10 : (Nat → Int32)) (i0 : (Nat → Int32)) : lp_X10_know_50b v q10 i0 0 = i0 := rfl
theorem lp_X10_know_50b_s (v : MV) (q10 : (Nat → Int32)) (i0 : (Nat → Int32)) (k : Nat) : lp_X10_know_50b v q10 i0 (k + 1) = st_X10_know_50b v q10 k (lp_X10_know_50b v q10 i0 k) := rfl
def f_X10_know_10_x (v : MV) (q10 : (Nat → Int32)) : (Nat → Int32) × Int32 := f_X10_know_50b_x v q10 (lp_X10_know_50b v q10 q10 108)
def st_X10_know_10 (v : MV) (k10 : Nat) (q10 : (Nat → Int32)) : (Nat → Int32) := (upd q10 k10 (q10 (108 + k10)))
def lp_X10_know_10 (v : MV) (i0 : (Nat → Int32)) : Nat → (Nat → Int32)
  | 0 => i0
  | k + 1 => st_X10_know_10 v k (lp_X10_know_10 v i0 k)
theorem lp_X10_know_10_0 (v : MV) (i0 : (Nat → Int32)) : lp_X10_know_10 v i0 0 = i0 := rfl
theorem lp_X10_know_10_s (v : MV) (i0 : (Nat → Int32)) (k : Nat) : lp_X10_know_10 v i0 (k + 1) = st_X10_know_10 v k (lp_X10_know_10 v i0 k) := rfl
def f_X10_know (v : MV) : (Nat → Int32) × Int32 := if v.2.2.2.1 = 4 then f_X10_know_10_x v (lp_X10_know_10 v v.2.2.1 324) else f_X10_know_50_x v (lp_X10_know_50 v v.2.2.1 108)
set_option maxRecDepth 100000 in
set_option maxHeartbeats 1000000 in
theorem c_X10_know (l : Launch) (D : va_G) (z : ClassId × ClassId × ClassId) (h h1 h2 h3 h4 h5 : Nat) (v : MV) (hk : v.2.2.2.1 = nI v.2.2.2.1.toNatClampNeg) (hk4 : v.2.2.2.1.toNatClampNeg ≤ 4) (sz : Nat) : CV l yX10_know wsX10_know 0 0 0 0 [.ref h] D z (wX10 z h h1 h2 h3 h4 h5 v) sz (E0) (fun (zu : (Nat → Int32) × Int32) => zu = f_X10_know v) (fun zu => wX10 z h h1 h2 h3 h4 h5 (v.1, v.2.1, zu.1, zu.2, v.2.2.2.2.1, v.2.2.2.2.2.1, v.2.2.2.2.2.2.1, v.2.2.2.2.2.2.2.1, v.2.2.2.2.2.2.2.2.1, v.2.2.2.2.2.2.2.2.2.1, v.2.2.2.2.2.2.2.2.2.2.1, v.2.2.2.2.2.2.2.2.2.2.2.1, v.2.2.2.2.2.2.2.2.2.2.2.2.1, v.2.2.2.2.2.2.2.2.2.2.2.2.2.1, v.2.2.2.2.2.2.2.2.2.2.2.2.2.2.1, v.2.2.2.2.2.2.2.2.2.2.2.2.2.2.2)) := by
  refine met_v cX10_know 2 (by decide) rfl (Nat.le_of_ble_eq_true rfl) ?_
  intro p e s m args below meth c R Q hx hb hr hml hts hown hlocks hin hRf hRl hRc hRs hc0 hs0 A H hA hP hK hD hS hE hQ ls hl
  have hl : lv_has ls 2 [(0, .ref h)] := hl
  have hP : va_P D vwCl [(h, .inr (10, [.ref h1, .ref h2, .ref h3, .int v.2.2.2.1, .ref h4, .int v.2.2.2.2.2.1, .ref h5, .int v.2.2.2.2.2.2.2.1, .int v.2.2.2.2.2.2.2.2.1, .int v.2.2.2.2.2.2.2.2.2.1, .int v.2.2.2.2.2.2.2.2.2.2.1, .int v.2.2.2.2.2.2.2.2.2.2.2.1, .int v.2.2.2.2.2.2.2.2.2.2.2.2.1, .int v.2.2.2.2.2.2.2.2.2.2.2.2.2.1, .int v.2.2.2.2.2.2.2.2.2.2.2.2.2.2.1, .int v.2.2.2.2.2.2.2.2.2.2.2.2.2.2.2])), (h1, .inl (z.1, 108, .inl v.1)), (h2, .inl (z.1, 108, .inl v.2.1)), (h3, .inl (z.1, 432, .inl v.2.2.1)), (h4, .inl (z.1, 108, .inl v.2.2.2.2.1)), (h5, .inl (z.1, 80, .inl v.2.2.2.2.2.2.1))] H := hP
  have hD : va_D A [(h, .inr (10, [.ref h1, .ref h2, .ref h3, .int v.2.2.2.1, .ref h4, .int v.2.2.2.2.2.1, .ref h5, .int v.2.2.2.2.2.2.2.1, .int v.2.2.2.2.2.2.2.2.1, .int v.2.2.2.2.2.2.2.2.2.1, .int v.2.2.2.2.2.2.2.2.2.2.1, .int v.2.2.2.2.2.2.2.2.2.2.2.1, .int v.2.2.2.2.2.2.2.2.2.2.2.2.1, .int v.2.2.2.2.2.2.2.2.2.2.2.2.2.1, .int v.2.2.2.2.2.2.2.2.2.2.2.2.2.2.1, .int v.2.2.2.2.2.2.2.2.2.2.2.2.2.2.2])), (h1, .inl (z.1, 108, .inl v.1)), (h2, .inl (z.1, 108, .inl v.2.1)), (h3, .inl (z.1, 432, .inl v.2.2.1)), (h4, .inl (z.1, 108, .inl v.2.2.2.2.1)), (h5, .inl (z.1, 80, .inl v.2.2.2.2.2.2.1))] := hD
  have hown : s.vm.findClass RX10 = some m.cls := hown
  refine lv_aload_n hx hb dX10_know_0 rfl (lv_at hl 0 rfl) ?_
  refine va_get (D := D) (ci := 10) (v := .int v.2.2.2.1) (C := RX10) (T := TX10) (N := 16) hx hb hts iX10_know_X10 hown hK hP 0 rfl rfl 3 (by decide) (hts (.fieldLink RX10 41 "BarnPicturesModel" "known" "I") (by decide +kernel)) (fun _ h9 => h9) rfl dX10_know_1 ?_
  refine lv_iconst (v := 4) hx hb dX10_know_4 (by decide) ?_
  refine lv_icmp_ne (tgt := 48) hx hb dX10_know_5 (by decide) (fun c_1 => ?_) (fun c_1 => ?_)
  · have nc_1 : ¬ v.2.2.2.1.toNatClampNeg = 4 := fun h => c_1 ((neq_iff hk (nlit 4) (by omega) (by omega)).mpr h)
    refine lv_iconst (v := 0) hx hb dX10_know_48 (by decide) ?_
    refine lv_istore_n (lv' := [(1, .int 0), (0, .ref h)]) hx hb dX10_know_49 rfl hl (by decide) rfl (fun ls hl => ?_)
    have L50 : ∀ (n50 k50 : Nat) (q50 : (Nat → Int32)), q50 = lp_X10_know_50 v v.2.2.1 k50 → k50 ≤ 108 → 108 + 1 ≤ k50 + n50 → ∀ (H : Heap) (locs : List Loc) (ls : Array Slot), va_P D vwCl [(h, .inr (10, [.ref h1, .ref h2, .ref h3, .int v.2.2.2.1, .ref h4, .int v.2.2.2.2.2.1, .ref h5, .int v.2.2.2.2.2.2.2.1, .int v.2.2.2.2.2.2.2.2.1, .int v.2.2.2.2.2.2.2.2.2.1, .int v.2.2.2.2.2.2.2.2.2.2.1, .int v.2.2.2.2.2.2.2.2.2.2.2.1, .int v.2.2.2.2.2.2.2.2.2.2.2.2.1, .int v.2.2.2.2.2.2.2.2.2.2.2.2.2.1, .int v.2.2.2.2.2.2.2.2.2.2.2.2.2.2.1, .int v.2.2.2.2.2.2.2.2.2.2.2.2.2.2.2])), (h1, .inl (z.1, 108, .inl v.1)), (h2, .inl (z.1, 108, .inl v.2.1)), (h3, .inl (z.1, 432, .inl q50)), (h4, .inl (z.1, 108, .inl v.2.2.2.2.1)), (h5, .inl (z.1, 80, .inl v.2.2.2.2.2.2.1))] H → va_D A [(h, .inr (10, [.ref h1, .ref h2, .ref h3, .int v.2.2.2.1, .ref h4, .int v.2.2.2.2.2.1, .ref h5, .int v.2.2.2.2.2.2.2.1, .int v.2.2.2.2.2.2.2.2.1, .int v.2.2.2.2.2.2.2.2.2.1, .int v.2.2.2.2.2.2.2.2.2.2.1, .int v.2.2.2.2.2.2.2.2.2.2.2.1, .int v.2.2.2.2.2.2.2.2.2.2.2.2.1, .int v.2.2.2.2.2.2.2.2.2.2.2.2.2.1, .int v.2.2.2.2.2.2.2.2.2.2.2.2.2.2.1, .int v.2.2.2.2.2.2.2.2.2.2.2.2.2.2.2])), (h1, .inl (z.1, 108, .inl v.1)), (h2, .inl (z.1, 108, .inl v.2.1)), (h3, .inl (z.1, 432, .inl q50)), (h4, .inl (z.1, 108, .inl v.2.2.2.2.1)), (h5, .inl (z.1, 80, .inl v.2.2.2.2.2.2.1))] → va_S A s.heap H locs → lv_has ls 2 [(1, .int (nI k50)), (0, .ref h)] → W p l e R s m args below meth c H locs 0 0 Q (F0 m 50 ls []) := by
      intro n50
      induction n50 with
      | zero => intro k50 q50 hq50 h1 h2; exact absurd h2 (by omega)
      | succ n50 ih50 =>
        intro k50 q50 hq50 hk50 hn50 H locs ls hP hD hS hl
        refine lv_iload_n hx hb dX10_know_50 rfl (lv_at hl 0 rfl) ?_
        refine lv_bipush (v := 108) hx hb dX10_know_51 (by decide) ?_
        rcases Nat.lt_or_ge k50 108 with hlt | hge
        · refine lv_icmp_ge (tgt := 82) hx hb dX10_know_53 (by decide) (fun c_3 => absurd c_3 (nI_ge (a := k50) (b := 108) (by omega) (by omega))) (fun c_3 => ?_)
          refine lv_aload_n hx hb dX10_know_56 rfl (lv_at hl 1 rfl) ?_
          refine va_get (D := D) (ci := 10) (v := .ref h3) (C := RX10) (T := TX10) (N := 16) hx hb hts iX10_know_X10 hown hK hP 0 rfl rfl 2 (by decide) (hts (.fieldLink RX10 16 "BarnPicturesModel" "before" "[I") (by decide +kernel)) (fun _ h9 => h9) rfl dX10_know_57 ?_
          refine lv_bipush (v := 108) hx hb dX10_know_60 (by decide) ?_
          refine lv_aload_n hx hb dX10_know_62 rfl (lv_at hl 1 rfl) ?_
          refine va_get (D := D) (ci := 10) (v := .int v.2.2.2.1) (C := RX10) (T := TX10) (N := 16) hx hb hts iX10_know_X10 hown hK hP 0 rfl rfl 3 (by decide) (hts (.fieldLink RX10 41 "BarnPicturesModel" "known" "I") (by decide +kernel)) (fun _ h9 => h9) rfl dX10_know_63 ?_
          refine lv_imul hx hb dX10_know_66 ?_
          refine lv_iload_n hx hb dX10_know_67 rfl (lv_at hl 0 rfl) ?_
          refine lv_iadd hx hb dX10_know_68 ?_
          refine lv_aload_n hx hb dX10_know_69 rfl (lv_at hl 1 rfl) ?_
          refine va_get (D := D) (ci := 10) (v := .ref h1) (C := RX10) (T := TX10) (N := 16) hx hb hts iX10_know_X10 hown hK hP 0 rfl rfl 0 (by decide) (hts (.fieldLink RX10 7 "BarnPicturesModel" "s" "[I") (by decide +kernel)) (fun _ h9 => h9) rfl dX10_know_70 ?_
          refine lv_iload_n hx hb dX10_know_73 rfl (lv_at hl 0 rfl) ?_
          refine iald_k hx hb hK hP 1 rfl k50 (ix_of (nrf k50) (by omega) (by decide)) dX10_know_74 ?_
          refine iast_k hx hb hK hP hD hS 3 rfl ((108 * v.2.2.2.1.toNatClampNeg) + k50) (ix_of (nadd (nmul (nlit 108) hk) (nrf k50)) (by omega) (by decide)) dX10_know_75 (fun H locs hP hD hS => ?_)
          have hP : va_P D vwCl [(h, .inr (10, [.ref h1, .ref h2, .ref h3, .int v.2.2.2.1, .ref h4, .int v.2.2.2.2.2.1, .ref h5, .int v.2.2.2.2.2.2.2.1, .int v.2.2.2.2.2.2.2.2.1, .int v.2.2.2.2.2.2.2.2.2.1, .int v.2.2.2.2.2.2.2.2.2.2.1, .int v.2.2.2.2.2.2.2.2.2.2.2.1, .int v.2.2.2.2.2.2.2.2.2.2.2.2.1, .int v.2.2.2.2.2.2.2.2.2.2.2.2.2.1, .int v.2.2.2.2.2.2.2.2.2.2.2.2.2.2.1, .int v.2.2.2.2.2.2.2.2.2.2.2.2.2.2.2])), (h1, .inl (z.1, 108, .inl v.1)), (h2, .inl (z.1, 108, .inl v.2.1)), (h3, .inl (z.1, 432, .inl (upd q50 ((108 * v.2.2.2.1.toNatClampNeg) + k50) (v.1 k50)))), (h4, .inl (z.1, 108, .inl v.2.2.2.2.1)), (h5, .inl (z.1, 80, .inl v.2.2.2.2.2.2.1))] H := hP
          have hD : va_D A [(h, .inr (10, [.ref h1, .ref h2, .ref h3, .int v.2.2.2.1, .ref h4, .int v.2.2.2.2.2.1, .ref h5, .int v.2.2.2.2.2.2.2.1, .int v.2.2.2.2.2.2.2.2.1, .int v.2.2.2.2.2.2.2.2.2.1, .int v.2.2.2.2.2.2.2.2.2.2.1, .int v.2.2.2.2.2.2.2.2.2.2.2.1, .int v.2.2.2.2.2.2.2.2.2.2.2.2.1, .int v.2.2.2.2.2.2.2.2.2.2.2.2.2.1, .int v.2.2.2.2.2.2.2.2.2.2.2.2.2.2.1, .int v.2.2.2.2.2.2.2.2.2.2.2.2.2.2.2])), (h1, .inl (z.1, 108, .inl v.1)), (h2, .inl (z.1, 108, .inl v.2.1)), (h3, .inl (z.1, 432, .inl (upd q50 ((108 * v.2.2.2.1.toNatClampNeg) + k50) (v.1 k50)))), (h4, .inl (z.1, 108, .inl v.2.2.2.2.1)), (h5, .inl (z.1, 80, .inl v.2.2.2.2.2.2.1))] := hD
          refine lv_iinc (v := nI (k50 + 1)) (lv' := [(1, .int (nI (k50 + 1))), (0, .ref h)]) hx hb dX10_know_76 hl (k := 0) rfl (nI_add k50 1) (by decide) rfl (fun ls hl => ?_)
          refine lv_goto (tgt := 50) hx hb dX10_know_79 (by decide) ?_
          exact ih50 (k50 + 1) (upd q50 ((108 * v.2.2.2.1.toNatClampNeg) + k50) (v.1 k50)) (by rw [lp_X10_know_50_s, ← hq50]; unfold st_X10_know_50; try rfl) (by omega) (by omega) _ _ _ hP hD hS (lv_sub hl [0, 1] rfl)
        · obtain rfl : 108 = k50 := by omega
          refine lv_icmp_ge (tgt := 82) hx hb dX10_know_53 (by decide) (fun c_3 => ?_) (fun c_3 => absurd (nI_le (a := 108) (b := 108) (by omega) (by omega)) c_3)
          have hP : va_P D vwCl [(h, .inr (10, [.ref h1, .ref h2, .ref h3, .int v.2.2.2.1, .ref h4, .int v.2.2.2.2.2.1, .ref h5, .int v.2.2.2.2.2.2.2.1, .int v.2.2.2.2.2.2.2.2.1, .int v.2.2.2.2.2.2.2.2.2.1, .int v.2.2.2.2.2.2.2.2.2.2.1, .int v.2.2.2.2.2.2.2.2.2.2.2.1, .int v.2.2.2.2.2.2.2.2.2.2.2.2.1, .int v.2.2.2.2.2.2.2.2.2.2.2.2.2.1, .int v.2.2.2.2.2.2.2.2.2.2.2.2.2.2.1, .int v.2.2.2.2.2.2.2.2.2.2.2.2.2.2.2])), (h1, .inl (z.1, 108, .inl v.1)), (h2, .inl (z.1, 108, .inl v.2.1)), (h3, .inl (z.1, 432, .inl q50)), (h4, .inl (z.1, 108, .inl v.2.2.2.2.1)), (h5, .inl (z.1, 80, .inl v.2.2.2.2.2.2.1))] H := hP
          have hD : va_D A [(h, .inr (10, [.ref h1, .ref h2, .ref h3, .int v.2.2.2.1, .ref h4, .int v.2.2.2.2.2.1, .ref h5, .int v.2.2.2.2.2.2.2.1, .int v.2.2.2.2.2.2.2.2.1, .int v.2.2.2.2.2.2.2.2.2.1, .int v.2.2.2.2.2.2.2.2.2.2.1, .int v.2.2.2.2.2.2.2.2.2.2.2.1, .int v.2.2.2.2.2.2.2.2.2.2.2.2.1, .int v.2.2.2.2.2.2.2.2.2.2.2.2.2.1, .int v.2.2.2.2.2.2.2.2.2.2.2.2.2.2.1, .int v.2.2.2.2.2.2.2.2.2.2.2.2.2.2.2])), (h1, .inl (z.1, 108, .inl v.1)), (h2, .inl (z.1, 108, .inl v.2.1)), (h3, .inl (z.1, 432, .inl q50)), (h4, .inl (z.1, 108, .inl v.2.2.2.2.1)), (h5, .inl (z.1, 80, .inl v.2.2.2.2.2.2.1))] := hD
          refine lv_aload_n hx hb dX10_know_82 rfl (lv_at hl 1 rfl) ?_
          refine lv_dup hx hb dX10_know_83 rfl ?_
          refine va_get (D := D) (ci := 10) (v := .int v.2.2.2.1) (C := RX10) (T := TX10) (N := 16) hx hb hts iX10_know_X10 hown hK hP 0 rfl rfl 3 (by decide) (hts (.fieldLink RX10 41 "BarnPicturesModel" "known" "I") (by decide +kernel)) (fun _ h9 => h9) rfl dX10_know_84 ?_
          refine lv_iconst (v := 1) hx hb dX10_know_87 (by decide) ?_
          refine lv_iadd hx hb dX10_know_88 ?_
          refine va_put (D := D) (ci := 10) (v := .int (v.2.2.2.1 + 1)) (ty := .int) (C := RX10) (T := TX10) (N := 16) hx hb hts iX10_know_X10 tyX10 tyX10_ok nmX10 hown hK hP hD hS 0 rfl rfl 3 (by decide) (hts (.fieldLink RX10 41 "BarnPicturesModel" "known" "I") (by decide +kernel)) (fun _ h9 => h9) rfl (by decide +kernel) rfl rfl (Nat.le_of_ble_eq_true rfl) dX10_know_89 (fun H locs hP hD hS => ?_)
          have hP : va_P D vwCl [(h, .inr (10, [.ref h1, .ref h2, .ref h3, .int (v.2.2.2.1 + 1), .ref h4, .int v.2.2.2.2.2.1, .ref h5, .int v.2.2.2.2.2.2.2.1, .int v.2.2.2.2.2.2.2.2.1, .int v.2.2.2.2.2.2.2.2.2.1, .int v.2.2.2.2.2.2.2.2.2.2.1, .int v.2.2.2.2.2.2.2.2.2.2.2.1, .int v.2.2.2.2.2.2.2.2.2.2.2.2.1, .int v.2.2.2.2.2.2.2.2.2.2.2.2.2.1, .int v.2.2.2.2.2.2.2.2.2.2.2.2.2.2.1, .int v.2.2.2.2.2.2.2.2.2.2.2.2.2.2.2])), (h1, .inl (z.1, 108, .inl v.1)), (h2, .inl (z.1, 108, .inl v.2.1)), (h3, .inl (z.1, 432, .inl q50)), (h4, .inl (z.1, 108, .inl v.2.2.2.2.1)), (h5, .inl (z.1, 80, .inl v.2.2.2.2.2.2.1))] H := hP
          have hD : va_D A [(h, .inr (10, [.ref h1, .ref h2, .ref h3, .int (v.2.2.2.1 + 1), .ref h4, .int v.2.2.2.2.2.1, .ref h5, .int v.2.2.2.2.2.2.2.1, .int v.2.2.2.2.2.2.2.2.1, .int v.2.2.2.2.2.2.2.2.2.1, .int v.2.2.2.2.2.2.2.2.2.2.1, .int v.2.2.2.2.2.2.2.2.2.2.2.1, .int v.2.2.2.2.2.2.2.2.2.2.2.2.1, .int v.2.2.2.2.2.2.2.2.2.2.2.2.2.1, .int v.2.2.2.2.2.2.2.2.2.2.2.2.2.2.1, .int v.2.2.2.2.2.2.2.2.2.2.2.2.2.2.2])), (h1, .inl (z.1, 108, .inl v.1)), (h2, .inl (z.1, 108, .inl v.2.1)), (h3, .inl (z.1, 432, .inl q50)), (h4, .inl (z.1, 108, .inl v.2.2.2.2.1)), (h5, .inl (z.1, 80, .inl v.2.2.2.2.2.2.1))] := hD
          subst hQ
          exact ret_v (q50, (v.2.2.2.1 + 1)) hx hb hr hK hP hD hS rfl (by unfold f_X10_know; rw [if_neg c_1, ← hq50]; unfold f_X10_know_50_x; try rfl) dX10_know_92 hlocks
    exact L50 (108 + 1) 0 v.2.2.1 (lp_X10_know_50_0 v v.2.2.1).symm (Nat.zero_le _) (by omega) _ _ _ hP hD hS (lv_sub hl [0, 1] rfl)
  · have nc_1 : v.2.2.2.1.toNatClampNeg = 4 := (neq_iff hk (nlit 4) (by omega) (by omega)).mp c_1
    refine lv_iconst (v := 0) hx hb dX10_know_8 (by decide) ?_
    refine lv_istore_n (lv' := [(1, .int 0), (0, .ref h)]) hx hb dX10_know_9 rfl hl (by decide) rfl (fun ls hl => ?_)
    have L10 : ∀ (n10 k10 : Nat) (q10 : (Nat → Int32)), q10 = lp_X10_know_10 v v.2.2.1 k10 → k10 ≤ 324 → 324 + 1 ≤ k10 + n10 → ∀ (H : Heap) (locs : List Loc) (ls : Array Slot), va_P D vwCl [(h, .inr (10, [.ref h1, .ref h2, .ref h3, .int v.2.2.2.1, .ref h4, .int v.2.2.2.2.2.1, .ref h5, .int v.2.2.2.2.2.2.2.1, .int v.2.2.2.2.2.2.2.2.1, .int v.2.2.2.2.2.2.2.2.2.1, .int v.2.2.2.2.2.2.2.2.2.2.1, .int v.2.2.2.2.2.2.2.2.2.2.2.1, .int v.2.2.2.2.2.2.2.2.2.2.2.2.1, .int v.2.2.2.2.2.2.2.2.2.2.2.2.2.1, .int v.2.2.2.2.2.2.2.2.2.2.2.2.2.2.1, .int v.2.2.2.2.2.2.2.2.2.2.2.2.2.2.2])), (h1, .inl (z.1, 108, .inl v.1)), (h2, .inl (z.1, 108, .inl v.2.1)), (h3, .inl (z.1, 432, .inl q10)), (h4, .inl (z.1, 108, .inl v.2.2.2.2.1)), (h5, .inl (z.1, 80, .inl v.2.2.2.2.2.2.1))] H → va_D A [(h, .inr (10, [.ref h1, .ref h2, .ref h3, .int v.2.2.2.1, .ref h4, .int v.2.2.2.2.2.1, .ref h5, .int v.2.2.2.2.2.2.2.1, .int v.2.2.2.2.2.2.2.2.1, .int v.2.2.2.2.2.2.2.2.2.1, .int v.2.2.2.2.2.2.2.2.2.2.1, .int v.2.2.2.2.2.2.2.2.2.2.2.1, .int v.2.2.2.2.2.2.2.2.2.2.2.2.1, .int v.2.2.2.2.2.2.2.2.2.2.2.2.2.1, .int v.2.2.2.2.2.2.2.2.2.2.2.2.2.2.1, .int v.2.2.2.2.2.2.2.2.2.2.2.2.2.2.2])), (h1, .inl (z.1, 108, .inl v.1)), (h2, .inl (z.1, 108, .inl v.2.1)), (h3, .inl (z.1, 432, .inl q10)), (h4, .inl (z.1, 108, .inl v.2.2.2.2.1)), (h5, .inl (z.1, 80, .inl v.2.2.2.2.2.2.1))] → va_S A s.heap H locs → lv_has ls 2 [(1, .int (nI k10)), (0, .ref h)] → W p l e R s m args below meth c H locs 0 0 Q (F0 m 10 ls []) := by
      intro n10
      induction n10 with
      | zero => intro k10 q10 hq10 h1 h2; exact absurd h2 (by omega)
      | succ n10 ih10 =>
        intro k10 q10 hq10 hk10 hn10 H locs ls hP hD hS hl
        refine lv_iload_n hx hb dX10_know_10 rfl (lv_at hl 0 rfl) ?_
        refine lv_sipush (v := 324) hx hb dX10_know_11 (by decide) ?_
        rcases Nat.lt_or_ge k10 324 with hlt | hge
        · refine lv_icmp_ge (tgt := 38) hx hb dX10_know_14 (by decide) (fun c_5 => absurd c_5 (nI_ge (a := k10) (b := 324) (by omega) (by omega))) (fun c_5 => ?_)
          refine lv_aload_n hx hb dX10_know_17 rfl (lv_at hl 1 rfl) ?_
          refine va_get (D := D) (ci := 10) (v := .ref h3) (C := RX10) (T := TX10) (N := 16) hx hb hts iX10_know_X10 hown hK hP 0 rfl rfl 2 (by decide) (hts (.fieldLink RX10 16 "BarnPicturesModel" "before" "[I") (by decide +kernel)) (fun _ h9 => h9) rfl dX10_know_18 ?_
          refine lv_iload_n hx hb dX10_know_21 rfl (lv_at hl 0 rfl) ?_
          refine lv_aload_n hx hb dX10_know_22 rfl (lv_at hl 1 rfl) ?_
          refine va_get (D := D) (ci := 10) (v := .ref h3) (C := RX10) (T := TX10) (N := 16) hx hb hts iX10_know_X10 hown hK hP 0 rfl rfl 2 (by decide) (hts (.fieldLink RX10 16 "BarnPicturesModel" "before" "[I") (by decide +kernel)) (fun _ h9 => h9) rfl dX10_know_23 ?_
          refine lv_bipush (v := 108) hx hb dX10_know_26 (by decide) ?_
          refine lv_iload_n hx hb dX10_know_28 rfl (lv_at hl 0 rfl) ?_
          refine lv_iadd hx hb dX10_know_29 ?_
          refine iald_k hx hb hK hP 3 rfl (108 + k10) (ix_of (nadd (nlit 108) (nrf k10)) (by omega) (by decide)) dX10_know_30 ?_
          refine iast_k hx hb hK hP hD hS 3 rfl k10 (ix_of (nrf k10) (by omega) (by decide)) dX10_know_31 (fun H locs hP hD hS => ?_)
          have hP : va_P D vwCl [(h, .inr (10, [.ref h1, .ref h2, .ref h3, .int v.2.2.2.1, .ref h4, .int v.2.2.2.2.2.1, .ref h5, .int v.2.2.2.2.2.2.2.1, .int v.2.2.2.2.2.2.2.2.1, .int v.2.2.2.2.2.2.2.2.2.1, .int v.2.2.2.2.2.2.2.2.2.2.1, .int v.2.2.2.2.2.2.2.2.2.2.2.1, .int v.2.2.2.2.2.2.2.2.2.2.2.2.1, .int v.2.2.2.2.2.2.2.2.2.2.2.2.2.1, .int v.2.2.2.2.2.2.2.2.2.2.2.2.2.2.1, .int v.2.2.2.2.2.2.2.2.2.2.2.2.2.2.2])), (h1, .inl (z.1, 108, .inl v.1)), (h2, .inl (z.1, 108, .inl v.2.1)), (h3, .inl (z.1, 432, .inl (upd q10 k10 (q10 (108 + k10))))), (h4, .inl (z.1, 108, .inl v.2.2.2.2.1)), (h5, .inl (z.1, 80, .inl v.2.2.2.2.2.2.1))] H := hP
          have hD : va_D A [(h, .inr (10, [.ref h1, .ref h2, .ref h3, .int v.2.2.2.1, .ref h4, .int v.2.2.2.2.2.1, .ref h5, .int v.2.2.2.2.2.2.2.1, .int v.2.2.2.2.2.2.2.2.1, .int v.2.2.2.2.2.2.2.2.2.1, .int v.2.2.2.2.2.2.2.2.2.2.1, .int v.2.2.2.2.2.2.2.2.2.2.2.1, .int v.2.2.2.2.2.2.2.2.2.2.2.2.1, .int v.2.2.2.2.2.2.2.2.2.2.2.2.2.1, .int v.2.2.2.2.2.2.2.2.2.2.2.2.2.2.1, .int v.2.2.2.2.2.2.2.2.2.2.2.2.2.2.2])), (h1, .inl (z.1, 108, .inl v.1)), (h2, .inl (z.1, 108, .inl v.2.1)), (h3, .inl (z.1, 432, .inl (upd q10 k10 (q10 (108 + k10))))), (h4, .inl (z.1, 108, .inl v.2.2.2.2.1)), (h5, .inl (z.1, 80, .inl v.2.2.2.2.2.2.1))] := hD
          refine lv_iinc (v := nI (k10 + 1)) (lv' := [(1, .int (nI (k10 + 1))), (0, .ref h)]) hx hb dX10_know_32 hl (k := 0) rfl (nI_add k10 1) (by decide) rfl (fun ls hl => ?_)
          refine lv_goto (tgt := 10) hx hb dX10_know_35 (by decide) ?_
          exact ih10 (k10 + 1) (upd q10 k10 (q10 (108 + k10))) (by rw [lp_X10_know_10_s, ← hq10]; unfold st_X10_know_10; try rfl) (by omega) (by omega) _ _ _ hP hD hS (lv_sub hl [0, 1] rfl)
        · obtain rfl : 324 = k10 := by omega
          refine lv_icmp_ge (tgt := 38) hx hb dX10_know_14 (by decide) (fun c_5 => ?_) (fun c_5 => absurd (nI_le (a := 324) (b := 324) (by omega) (by omega)) c_5)
          have hP : va_P D vwCl [(h, .inr (10, [.ref h1, .ref h2, .ref h3, .int v.2.2.2.1, .ref h4, .int v.2.2.2.2.2.1, .ref h5, .int v.2.2.2.2.2.2.2.1, .int v.2.2.2.2.2.2.2.2.1, .int v.2.2.2.2.2.2.2.2.2.1, .int v.2.2.2.2.2.2.2.2.2.2.1, .int v.2.2.2.2.2.2.2.2.2.2.2.1, .int v.2.2.2.2.2.2.2.2.2.2.2.2.1, .int v.2.2.2.2.2.2.2.2.2.2.2.2.2.1, .int v.2.2.2.2.2.2.2.2.2.2.2.2.2.2.1, .int v.2.2.2.2.2.2.2.2.2.2.2.2.2.2.2])), (h1, .inl (z.1, 108, .inl v.1)), (h2, .inl (z.1, 108, .inl v.2.1)), (h3, .inl (z.1, 432, .inl q10)), (h4, .inl (z.1, 108, .inl v.2.2.2.2.1)), (h5, .inl (z.1, 80, .inl v.2.2.2.2.2.2.1))] H := hP
          have hD : va_D A [(h, .inr (10, [.ref h1, .ref h2, .ref h3, .int v.2.2.2.1, .ref h4, .int v.2.2.2.2.2.1, .ref h5, .int v.2.2.2.2.2.2.2.1, .int v.2.2.2.2.2.2.2.2.1, .int v.2.2.2.2.2.2.2.2.2.1, .int v.2.2.2.2.2.2.2.2.2.2.1, .int v.2.2.2.2.2.2.2.2.2.2.2.1, .int v.2.2.2.2.2.2.2.2.2.2.2.2.1, .int v.2.2.2.2.2.2.2.2.2.2.2.2.2.1, .int v.2.2.2.2.2.2.2.2.2.2.2.2.2.2.1, .int v.2.2.2.2.2.2.2.2.2.2.2.2.2.2.2])), (h1, .inl (z.1, 108, .inl v.1)), (h2, .inl (z.1, 108, .inl v.2.1)), (h3, .inl (z.1, 432, .inl q10)), (h4, .inl (z.1, 108, .inl v.2.2.2.2.1)), (h5, .inl (z.1, 80, .inl v.2.2.2.2.2.2.1))] := hD
          refine lv_aload_n hx hb dX10_know_38 rfl (lv_at hl 1 rfl) ?_
          refine lv_dup hx hb dX10_know_39 rfl ?_
          refine va_get (D := D) (ci := 10) (v := .int v.2.2.2.1) (C := RX10) (T := TX10) (N := 16) hx hb hts iX10_know_X10 hown hK hP 0 rfl rfl 3 (by decide) (hts (.fieldLink RX10 41 "BarnPicturesModel" "known" "I") (by decide +kernel)) (fun _ h9 => h9) rfl dX10_know_40 ?_
          refine lv_iconst (v := 1) hx hb dX10_know_43 (by decide) ?_
          refine lv_isub hx hb dX10_know_44 ?_
          refine va_put (D := D) (ci := 10) (v := .int (v.2.2.2.1 - 1)) (ty := .int) (C := RX10) (T := TX10) (N := 16) hx hb hts iX10_know_X10 tyX10 tyX10_ok nmX10 hown hK hP hD hS 0 rfl rfl 3 (by decide) (hts (.fieldLink RX10 41 "BarnPicturesModel" "known" "I") (by decide +kernel)) (fun _ h9 => h9) rfl (by decide +kernel) rfl rfl (Nat.le_of_ble_eq_true rfl) dX10_know_45 (fun H locs hP hD hS => ?_)
          have hP : va_P D vwCl [(h, .inr (10, [.ref h1, .ref h2, .ref h3, .int (v.2.2.2.1 - 1), .ref h4, .int v.2.2.2.2.2.1, .ref h5, .int v.2.2.2.2.2.2.2.1, .int v.2.2.2.2.2.2.2.2.1, .int v.2.2.2.2.2.2.2.2.2.1, .int v.2.2.2.2.2.2.2.2.2.2.1, .int v.2.2.2.2.2.2.2.2.2.2.2.1, .int v.2.2.2.2.2.2.2.2.2.2.2.2.1, .int v.2.2.2.2.2.2.2.2.2.2.2.2.2.1, .int v.2.2.2.2.2.2.2.2.2.2.2.2.2.2.1, .int v.2.2.2.2.2.2.2.2.2.2.2.2.2.2.2])), (h1, .inl (z.1, 108, .inl v.1)), (h2, .inl (z.1, 108, .inl v.2.1)), (h3, .inl (z.1, 432, .inl q10)), (h4, .inl (z.1, 108, .inl v.2.2.2.2.1)), (h5, .inl (z.1, 80, .inl v.2.2.2.2.2.2.1))] H := hP
          have hD : va_D A [(h, .inr (10, [.ref h1, .ref h2, .ref h3, .int (v.2.2.2.1 - 1), .ref h4, .int v.2.2.2.2.2.1, .ref h5, .int v.2.2.2.2.2.2.2.1, .int v.2.2.2.2.2.2.2.2.1, .int v.2.2.2.2.2.2.2.2.2.1, .int v.2.2.2.2.2.2.2.2.2.2.1, .int v.2.2.2.2.2.2.2.2.2.2.2.1, .int v.2.2.2.2.2.2.2.2.2.2.2.2.1, .int v.2.2.2.2.2.2.2.2.2.2.2.2.2.1, .int v.2.2.2.2.2.2.2.2.2.2.2.2.2.2.1, .int v.2.2.2.2.2.2.2.2.2.2.2.2.2.2.2])), (h1, .inl (z.1, 108, .inl v.1)), (h2, .inl (z.1, 108, .inl v.2.1)), (h3, .inl (z.1, 432, .inl q10)), (h4, .inl (z.1, 108, .inl v.2.2.2.2.1)), (h5, .inl (z.1, 80, .inl v.2.2.2.2.2.2.1))] := hD
          refine lv_iconst (v := 0) hx hb dX10_know_48 (by decide) ?_
          refine lv_istore_n (lv' := [(1, .int 0), (0, .ref h)]) hx hb dX10_know_49 rfl hl (by decide) rfl (fun ls hl => ?_)
          have L50 : ∀ (n50 k50 : Nat) (q50 : (Nat → Int32)), q50 = lp_X10_know_50b v q10 q10 k50 → k50 ≤ 108 → 108 + 1 ≤ k50 + n50 → ∀ (H : Heap) (locs : List Loc) (ls : Array Slot), va_P D vwCl [(h, .inr (10, [.ref h1, .ref h2, .ref h3, .int (v.2.2.2.1 - 1), .ref h4, .int v.2.2.2.2.2.1, .ref h5, .int v.2.2.2.2.2.2.2.1, .int v.2.2.2.2.2.2.2.2.1, .int v.2.2.2.2.2.2.2.2.2.1, .int v.2.2.2.2.2.2.2.2.2.2.1, .int v.2.2.2.2.2.2.2.2.2.2.2.1, .int v.2.2.2.2.2.2.2.2.2.2.2.2.1, .int v.2.2.2.2.2.2.2.2.2.2.2.2.2.1, .int v.2.2.2.2.2.2.2.2.2.2.2.2.2.2.1, .int v.2.2.2.2.2.2.2.2.2.2.2.2.2.2.2])), (h1, .inl (z.1, 108, .inl v.1)), (h2, .inl (z.1, 108, .inl v.2.1)), (h3, .inl (z.1, 432, .inl q50)), (h4, .inl (z.1, 108, .inl v.2.2.2.2.1)), (h5, .inl (z.1, 80, .inl v.2.2.2.2.2.2.1))] H → va_D A [(h, .inr (10, [.ref h1, .ref h2, .ref h3, .int (v.2.2.2.1 - 1), .ref h4, .int v.2.2.2.2.2.1, .ref h5, .int v.2.2.2.2.2.2.2.1, .int v.2.2.2.2.2.2.2.2.1, .int v.2.2.2.2.2.2.2.2.2.1, .int v.2.2.2.2.2.2.2.2.2.2.1, .int v.2.2.2.2.2.2.2.2.2.2.2.1, .int v.2.2.2.2.2.2.2.2.2.2.2.2.1, .int v.2.2.2.2.2.2.2.2.2.2.2.2.2.1, .int v.2.2.2.2.2.2.2.2.2.2.2.2.2.2.1, .int v.2.2.2.2.2.2.2.2.2.2.2.2.2.2.2])), (h1, .inl (z.1, 108, .inl v.1)), (h2, .inl (z.1, 108, .inl v.2.1)), (h3, .inl (z.1, 432, .inl q50)), (h4, .inl (z.1, 108, .inl v.2.2.2.2.1)), (h5, .inl (z.1, 80, .inl v.2.2.2.2.2.2.1))] → va_S A s.heap H locs → lv_has ls 2 [(1, .int (nI k50)), (0, .ref h)] → W p l e R s m args below meth c H locs 0 0 Q (F0 m 50 ls []) := by
            intro n50
            induction n50 with
            | zero => intro k50 q50 hq50 h1 h2; exact absurd h2 (by omega)
            | succ n50 ih50 =>
              intro k50 q50 hq50 hk50 hn50 H locs ls hP hD hS hl
              refine lv_iload_n hx hb dX10_know_50 rfl (lv_at hl 0 rfl) ?_
              refine lv_bipush (v := 108) hx hb dX10_know_51 (by decide) ?_
              rcases Nat.lt_or_ge k50 108 with hlt | hge
              · refine lv_icmp_ge (tgt := 82) hx hb dX10_know_53 (by decide) (fun c_7 => absurd c_7 (nI_ge (a := k50) (b := 108) (by omega) (by omega))) (fun c_7 => ?_)
                refine lv_aload_n hx hb dX10_know_56 rfl (lv_at hl 1 rfl) ?_
                refine va_get (D := D) (ci := 10) (v := .ref h3) (C := RX10) (T := TX10) (N := 16) hx hb hts iX10_know_X10 hown hK hP 0 rfl rfl 2 (by decide) (hts (.fieldLink RX10 16 "BarnPicturesModel" "before" "[I") (by decide +kernel)) (fun _ h9 => h9) rfl dX10_know_57 ?_
                refine lv_bipush (v := 108) hx hb dX10_know_60 (by decide) ?_
                refine lv_aload_n hx hb dX10_know_62 rfl (lv_at hl 1 rfl) ?_
                refine va_get (D := D) (ci := 10) (v := .int (v.2.2.2.1 - 1)) (C := RX10) (T := TX10) (N := 16) hx hb hts iX10_know_X10 hown hK hP 0 rfl rfl 3 (by decide) (hts (.fieldLink RX10 41 "BarnPicturesModel" "known" "I") (by decide +kernel)) (fun _ h9 => h9) rfl dX10_know_63 ?_
                refine lv_imul hx hb dX10_know_66 ?_
                refine lv_iload_n hx hb dX10_know_67 rfl (lv_at hl 0 rfl) ?_
                refine lv_iadd hx hb dX10_know_68 ?_
                refine lv_aload_n hx hb dX10_know_69 rfl (lv_at hl 1 rfl) ?_
                refine va_get (D := D) (ci := 10) (v := .ref h1) (C := RX10) (T := TX10) (N := 16) hx hb hts iX10_know_X10 hown hK hP 0 rfl rfl 0 (by decide) (hts (.fieldLink RX10 7 "BarnPicturesModel" "s" "[I") (by decide +kernel)) (fun _ h9 => h9) rfl dX10_know_70 ?_
                refine lv_iload_n hx hb dX10_know_73 rfl (lv_at hl 0 rfl) ?_
                refine iald_k hx hb hK hP 1 rfl k50 (ix_of (nrf k50) (by omega) (by decide)) dX10_know_74 ?_
                refine iast_k hx hb hK hP hD hS 3 rfl ((108 * (v.2.2.2.1.toNatClampNeg - 1)) + k50) (ix_of (nadd (nmul (nlit 108) (nsub hk (nlit 1) (by omega))) (nrf k50)) (by omega) (by decide)) dX10_know_75 (fun H locs hP hD hS => ?_)
                have hP : va_P D vwCl [(h, .inr (10, [.ref h1, .ref h2, .ref h3, .int (v.2.2.2.1 - 1), .ref h4, .int v.2.2.2.2.2.1, .ref h5, .int v.2.2.2.2.2.2.2.1, .int v.2.2.2.2.2.2.2.2.1, .int v.2.2.2.2.2.2.2.2.2.1, .int v.2.2.2.2.2.2.2.2.2.2.1, .int v.2.2.2.2.2.2.2.2.2.2.2.1, .int v.2.2.2.2.2.2.2.2.2.2.2.2.1, .int v.2.2.2.2.2.2.2.2.2.2.2.2.2.1, .int v.2.2.2.2.2.2.2.2.2.2.2.2.2.2.1, .int v.2.2.2.2.2.2.2.2.2.2.2.2.2.2.2])), (h1, .inl (z.1, 108, .inl v.1)), (h2, .inl (z.1, 108, .inl v.2.1)), (h3, .inl (z.1, 432, .inl (upd q50 ((108 * (v.2.2.2.1.toNatClampNeg - 1)) + k50) (v.1 k50)))), (h4, .inl (z.1, 108, .inl v.2.2.2.2.1)), (h5, .inl (z.1, 80, .inl v.2.2.2.2.2.2.1))] H := hP
                have hD : va_D A [(h, .inr (10, [.ref h1, .ref h2, .ref h3, .int (v.2.2.2.1 - 1), .ref h4, .int v.2.2.2.2.2.1, .ref h5, .int v.2.2.2.2.2.2.2.1, .int v.2.2.2.2.2.2.2.2.1, .int v.2.2.2.2.2.2.2.2.2.1, .int v.2.2.2.2.2.2.2.2.2.2.1, .int v.2.2.2.2.2.2.2.2.2.2.2.1, .int v.2.2.2.2.2.2.2.2.2.2.2.2.1, .int v.2.2.2.2.2.2.2.2.2.2.2.2.2.1, .int v.2.2.2.2.2.2.2.2.2.2.2.2.2.2.1, .int v.2.2.2.2.2.2.2.2.2.2.2.2.2.2.2])), (h1, .inl (z.1, 108, .inl v.1)), (h2, .inl (z.1, 108, .inl v.2.1)), (h3, .inl (z.1, 432, .inl (upd q50 ((108 * (v.2.2.2.1.toNatClampNeg - 1)) + k50) (v.1 k50)))), (h4, .inl (z.1, 108, .inl v.2.2.2.2.1)), (h5, .inl (z.1, 80, .inl v.2.2.2.2.2.2.1))] := hD
                refine lv_iinc (v := nI (k50 + 1)) (lv' := [(1, .int (nI (k50 + 1))), (0, .ref h)]) hx hb dX10_know_76 hl (k := 0) rfl (nI_add k50 1) (by decide) rfl (fun ls hl => ?_)
                refine lv_goto (tgt := 50) hx hb dX10_know_79 (by decide) ?_
                exact ih50 (k50 + 1) (upd q50 ((108 * (v.2.2.2.1.toNatClampNeg - 1)) + k50) (v.1 k50)) (by rw [lp_X10_know_50b_s, ← hq50]; unfold st_X10_know_50b; try rfl) (by omega) (by omega) _ _ _ hP hD hS (lv_sub hl [0, 1] rfl)
              · obtain rfl : 108 = k50 := by omega
                refine lv_icmp_ge (tgt := 82) hx hb dX10_know_53 (by decide) (fun c_7 => ?_) (fun c_7 => absurd (nI_le (a := 108) (b := 108) (by omega) (by omega)) c_7)
                have hP : va_P D vwCl [(h, .inr (10, [.ref h1, .ref h2, .ref h3, .int (v.2.2.2.1 - 1), .ref h4, .int v.2.2.2.2.2.1, .ref h5, .int v.2.2.2.2.2.2.2.1, .int v.2.2.2.2.2.2.2.2.1, .int v.2.2.2.2.2.2.2.2.2.1, .int v.2.2.2.2.2.2.2.2.2.2.1, .int v.2.2.2.2.2.2.2.2.2.2.2.1, .int v.2.2.2.2.2.2.2.2.2.2.2.2.1, .int v.2.2.2.2.2.2.2.2.2.2.2.2.2.1, .int v.2.2.2.2.2.2.2.2.2.2.2.2.2.2.1, .int v.2.2.2.2.2.2.2.2.2.2.2.2.2.2.2])), (h1, .inl (z.1, 108, .inl v.1)), (h2, .inl (z.1, 108, .inl v.2.1)), (h3, .inl (z.1, 432, .inl q50)), (h4, .inl (z.1, 108, .inl v.2.2.2.2.1)), (h5, .inl (z.1, 80, .inl v.2.2.2.2.2.2.1))] H := hP
                have hD : va_D A [(h, .inr (10, [.ref h1, .ref h2, .ref h3, .int (v.2.2.2.1 - 1), .ref h4, .int v.2.2.2.2.2.1, .ref h5, .int v.2.2.2.2.2.2.2.1, .int v.2.2.2.2.2.2.2.2.1, .int v.2.2.2.2.2.2.2.2.2.1, .int v.2.2.2.2.2.2.2.2.2.2.1, .int v.2.2.2.2.2.2.2.2.2.2.2.1, .int v.2.2.2.2.2.2.2.2.2.2.2.2.1, .int v.2.2.2.2.2.2.2.2.2.2.2.2.2.1, .int v.2.2.2.2.2.2.2.2.2.2.2.2.2.2.1, .int v.2.2.2.2.2.2.2.2.2.2.2.2.2.2.2])), (h1, .inl (z.1, 108, .inl v.1)), (h2, .inl (z.1, 108, .inl v.2.1)), (h3, .inl (z.1, 432, .inl q50)), (h4, .inl (z.1, 108, .inl v.2.2.2.2.1)), (h5, .inl (z.1, 80, .inl v.2.2.2.2.2.2.1))] := hD
                refine lv_aload_n hx hb dX10_know_82 rfl (lv_at hl 1 rfl) ?_
                refine lv_dup hx hb dX10_know_83 rfl ?_
                refine va_get (D := D) (ci := 10) (v := .int (v.2.2.2.1 - 1)) (C := RX10) (T := TX10) (N := 16) hx hb hts iX10_know_X10 hown hK hP 0 rfl rfl 3 (by decide) (hts (.fieldLink RX10 41 "BarnPicturesModel" "known" "I") (by decide +kernel)) (fun _ h9 => h9) rfl dX10_know_84 ?_
                refine lv_iconst (v := 1) hx hb dX10_know_87 (by decide) ?_
                refine lv_iadd hx hb dX10_know_88 ?_
                refine va_put (D := D) (ci := 10) (v := .int ((v.2.2.2.1 - 1) + 1)) (ty := .int) (C := RX10) (T := TX10) (N := 16) hx hb hts iX10_know_X10 tyX10 tyX10_ok nmX10 hown hK hP hD hS 0 rfl rfl 3 (by decide) (hts (.fieldLink RX10 41 "BarnPicturesModel" "known" "I") (by decide +kernel)) (fun _ h9 => h9) rfl (by decide +kernel) rfl rfl (Nat.le_of_ble_eq_true rfl) dX10_know_89 (fun H locs hP hD hS => ?_)
                have hP : va_P D vwCl [(h, .inr (10, [.ref h1, .ref h2, .ref h3, .int ((v.2.2.2.1 - 1) + 1), .ref h4, .int v.2.2.2.2.2.1, .ref h5, .int v.2.2.2.2.2.2.2.1, .int v.2.2.2.2.2.2.2.2.1, .int v.2.2.2.2.2.2.2.2.2.1, .int v.2.2.2.2.2.2.2.2.2.2.1, .int v.2.2.2.2.2.2.2.2.2.2.2.1, .int v.2.2.2.2.2.2.2.2.2.2.2.2.1, .int v.2.2.2.2.2.2.2.2.2.2.2.2.2.1, .int v.2.2.2.2.2.2.2.2.2.2.2.2.2.2.1, .int v.2.2.2.2.2.2.2.2.2.2.2.2.2.2.2])), (h1, .inl (z.1, 108, .inl v.1)), (h2, .inl (z.1, 108, .inl v.2.1)), (h3, .inl (z.1, 432, .inl q50)), (h4, .inl (z.1, 108, .inl v.2.2.2.2.1)), (h5, .inl (z.1, 80, .inl v.2.2.2.2.2.2.1))] H := hP
                have hD : va_D A [(h, .inr (10, [.ref h1, .ref h2, .ref h3, .int ((v.2.2.2.1 - 1) + 1), .ref h4, .int v.2.2.2.2.2.1, .ref h5, .int v.2.2.2.2.2.2.2.1, .int v.2.2.2.2.2.2.2.2.1, .int v.2.2.2.2.2.2.2.2.2.1, .int v.2.2.2.2.2.2.2.2.2.2.1, .int v.2.2.2.2.2.2.2.2.2.2.2.1, .int v.2.2.2.2.2.2.2.2.2.2.2.2.1, .int v.2.2.2.2.2.2.2.2.2.2.2.2.2.1, .int v.2.2.2.2.2.2.2.2.2.2.2.2.2.2.1, .int v.2.2.2.2.2.2.2.2.2.2.2.2.2.2.2])), (h1, .inl (z.1, 108, .inl v.1)), (h2, .inl (z.1, 108, .inl v.2.1)), (h3, .inl (z.1, 432, .inl q50)), (h4, .inl (z.1, 108, .inl v.2.2.2.2.1)), (h5, .inl (z.1, 80, .inl v.2.2.2.2.2.2.1))] := hD
                subst hQ
                exact ret_v (q50, ((v.2.2.2.1 - 1) + 1)) hx hb hr hK hP hD hS rfl (by unfold f_X10_know; rw [if_pos c_1, ← hq10]; unfold f_X10_know_10_x; rw [← hq50]; unfold f_X10_know_50b_x; try rfl) dX10_know_92 hlocks
          exact L50 (108 + 1) 0 q10 (lp_X10_know_50b_0 v q10 q10).symm (Nat.zero_le _) (by omega) _ _ _ hP hD hS (lv_sub hl [0, 1] rfl)
    exact L10 (324 + 1) 0 v.2.2.1 (lp_X10_know_10_0 v v.2.2.1).symm (Nat.zero_le _) (by omega) _ _ _ hP hD hS (lv_sub hl [0, 1] rfl)

theorem iX10_putAside_X10 : ∀ w ∈ wsX100, w ∈ wsX10_putAside := by decide +kernel
def f_X10_putAside_2_x (v : MV) (q2 : (Nat → Int32)) : (Nat → Int32) := q2
def st_X10_putAside_2 (v : MV) (k2 : Nat) (q2 : (Nat → Int32)) : (Nat → Int32) := (upd q2 k2 (v.1 k2))
def lp_X10_putAside_2 (v : MV) (i0 : (Nat → Int32)) : Nat → (Nat → Int32)
  | 0 => i0
  | k + 1 => st_X10_putAside_2 v k (lp_X10_putAside_2 v i0 k)
theorem lp_X10_putAside_2_0 (v : MV) (i0 : (Nat → Int32)) : lp_X10_putAside_2 v i0 0 = i0 := rfl
theorem lp_X10_putAside_2_s (v : MV) (i0 : (Nat → Int32)) (k : Nat) : lp_X10_putAside_2 v i0 (k + 1) = st_X10_putAside_2 v k (lp_X10_putAside_2 v i0 k) := rfl
def f_X10_putAside (v : MV) : (Nat → Int32) := f_X10_putAside_2_x v (lp_X10_putAside_2 v v.2.1 108)
set_option maxRecDepth 100000 in
set_option maxHeartbeats 1000000 in
theorem c_X10_putAside (l : Launch) (D : va_G) (z : ClassId × ClassId × ClassId) (h h1 h2 h3 h4 h5 : Nat) (v : MV) (sz : Nat) : CV l yX10_putAside wsX10_putAside 0 0 0 0 [.ref h] D z (wX10 z h h1 h2 h3 h4 h5 v) sz (E0) (fun (zu : (Nat → Int32)) => zu = f_X10_putAside v) (fun zu => wX10 z h h1 h2 h3 h4 h5 (v.1, zu, v.2.2.1, v.2.2.2.1, v.2.2.2.2.1, v.2.2.2.2.2.1, v.2.2.2.2.2.2.1, v.2.2.2.2.2.2.2.1, v.2.2.2.2.2.2.2.2.1, v.2.2.2.2.2.2.2.2.2.1, v.2.2.2.2.2.2.2.2.2.2.1, v.2.2.2.2.2.2.2.2.2.2.2.1, v.2.2.2.2.2.2.2.2.2.2.2.2.1, v.2.2.2.2.2.2.2.2.2.2.2.2.2.1, v.2.2.2.2.2.2.2.2.2.2.2.2.2.2.1, v.2.2.2.2.2.2.2.2.2.2.2.2.2.2.2)) := by
  refine met_v cX10_putAside 2 (by decide) rfl (Nat.le_of_ble_eq_true rfl) ?_
  intro p e s m args below meth c R Q hx hb hr hml hts hown hlocks hin hRf hRl hRc hRs hc0 hs0 A H hA hP hK hD hS hE hQ ls hl
  have hl : lv_has ls 2 [(0, .ref h)] := hl
  have hP : va_P D vwCl [(h, .inr (10, [.ref h1, .ref h2, .ref h3, .int v.2.2.2.1, .ref h4, .int v.2.2.2.2.2.1, .ref h5, .int v.2.2.2.2.2.2.2.1, .int v.2.2.2.2.2.2.2.2.1, .int v.2.2.2.2.2.2.2.2.2.1, .int v.2.2.2.2.2.2.2.2.2.2.1, .int v.2.2.2.2.2.2.2.2.2.2.2.1, .int v.2.2.2.2.2.2.2.2.2.2.2.2.1, .int v.2.2.2.2.2.2.2.2.2.2.2.2.2.1, .int v.2.2.2.2.2.2.2.2.2.2.2.2.2.2.1, .int v.2.2.2.2.2.2.2.2.2.2.2.2.2.2.2])), (h1, .inl (z.1, 108, .inl v.1)), (h2, .inl (z.1, 108, .inl v.2.1)), (h3, .inl (z.1, 432, .inl v.2.2.1)), (h4, .inl (z.1, 108, .inl v.2.2.2.2.1)), (h5, .inl (z.1, 80, .inl v.2.2.2.2.2.2.1))] H := hP
  have hD : va_D A [(h, .inr (10, [.ref h1, .ref h2, .ref h3, .int v.2.2.2.1, .ref h4, .int v.2.2.2.2.2.1, .ref h5, .int v.2.2.2.2.2.2.2.1, .int v.2.2.2.2.2.2.2.2.1, .int v.2.2.2.2.2.2.2.2.2.1, .int v.2.2.2.2.2.2.2.2.2.2.1, .int v.2.2.2.2.2.2.2.2.2.2.2.1, .int v.2.2.2.2.2.2.2.2.2.2.2.2.1, .int v.2.2.2.2.2.2.2.2.2.2.2.2.2.1, .int v.2.2.2.2.2.2.2.2.2.2.2.2.2.2.1, .int v.2.2.2.2.2.2.2.2.2.2.2.2.2.2.2])), (h1, .inl (z.1, 108, .inl v.1)), (h2, .inl (z.1, 108, .inl v.2.1)), (h3, .inl (z.1, 432, .inl v.2.2.1)), (h4, .inl (z.1, 108, .inl v.2.2.2.2.1)), (h5, .inl (z.1, 80, .inl v.2.2.2.2.2.2.1))] := hD
  have hown : s.vm.findClass RX10 = some m.cls := hown
  refine lv_iconst (v := 0) hx hb dX10_putAside_0 (by decide) ?_
  refine lv_istore_n (lv' := [(1, .int 0), (0, .ref h)]) hx hb dX10_putAside_1 rfl hl (by decide) rfl (fun ls hl => ?_)
  have L2 : ∀ (n2 k2 : Nat) (q2 : (Nat → Int32)), q2 = lp_X10_putAside_2 v v.2.1 k2 → k2 ≤ 108 → 108 + 1 ≤ k2 + n2 → ∀ (H : Heap) (locs : List Loc) (ls : Array Slot), va_P D vwCl [(h, .inr (10, [.ref h1, .ref h2, .ref h3, .int v.2.2.2.1, .ref h4, .int v.2.2.2.2.2.1, .ref h5, .int v.2.2.2.2.2.2.2.1, .int v.2.2.2.2.2.2.2.2.1, .int v.2.2.2.2.2.2.2.2.2.1, .int v.2.2.2.2.2.2.2.2.2.2.1, .int v.2.2.2.2.2.2.2.2.2.2.2.1, .int v.2.2.2.2.2.2.2.2.2.2.2.2.1, .int v.2.2.2.2.2.2.2.2.2.2.2.2.2.1, .int v.2.2.2.2.2.2.2.2.2.2.2.2.2.2.1, .int v.2.2.2.2.2.2.2.2.2.2.2.2.2.2.2])), (h1, .inl (z.1, 108, .inl v.1)), (h2, .inl (z.1, 108, .inl q2)), (h3, .inl (z.1, 432, .inl v.2.2.1)), (h4, .inl (z.1, 108, .inl v.2.2.2.2.1)), (h5, .inl (z.1, 80, .inl v.2.2.2.2.2.2.1))] H → va_D A [(h, .inr (10, [.ref h1, .ref h2, .ref h3, .int v.2.2.2.1, .ref h4, .int v.2.2.2.2.2.1, .ref h5, .int v.2.2.2.2.2.2.2.1, .int v.2.2.2.2.2.2.2.2.1, .int v.2.2.2.2.2.2.2.2.2.1, .int v.2.2.2.2.2.2.2.2.2.2.1, .int v.2.2.2.2.2.2.2.2.2.2.2.1, .int v.2.2.2.2.2.2.2.2.2.2.2.2.1, .int v.2.2.2.2.2.2.2.2.2.2.2.2.2.1, .int v.2.2.2.2.2.2.2.2.2.2.2.2.2.2.1, .int v.2.2.2.2.2.2.2.2.2.2.2.2.2.2.2])), (h1, .inl (z.1, 108, .inl v.1)), (h2, .inl (z.1, 108, .inl q2)), (h3, .inl (z.1, 432, .inl v.2.2.1)), (h4, .inl (z.1, 108, .inl v.2.2.2.2.1)), (h5, .inl (z.1, 80, .inl v.2.2.2.2.2.2.1))] → va_S A s.heap H locs → lv_has ls 2 [(1, .int (nI k2)), (0, .ref h)] → W p l e R s m args below meth c H locs 0 0 Q (F0 m 2 ls []) := by
    intro n2
    induction n2 with
    | zero => intro k2 q2 hq2 h1 h2; exact absurd h2 (by omega)
    | succ n2 ih2 =>
      intro k2 q2 hq2 hk2 hn2 H locs ls hP hD hS hl
      refine lv_iload_n hx hb dX10_putAside_2 rfl (lv_at hl 0 rfl) ?_
      refine lv_bipush (v := 108) hx hb dX10_putAside_3 (by decide) ?_
      rcases Nat.lt_or_ge k2 108 with hlt | hge
      · refine lv_icmp_ge (tgt := 26) hx hb dX10_putAside_5 (by decide) (fun c_2 => absurd c_2 (nI_ge (a := k2) (b := 108) (by omega) (by omega))) (fun c_2 => ?_)
        refine lv_aload_n hx hb dX10_putAside_8 rfl (lv_at hl 1 rfl) ?_
        refine va_get (D := D) (ci := 10) (v := .ref h2) (C := RX10) (T := TX10) (N := 16) hx hb hts iX10_putAside_X10 hown hK hP 0 rfl rfl 1 (by decide) (hts (.fieldLink RX10 13 "BarnPicturesModel" "aside" "[I") (by decide +kernel)) (fun _ h9 => h9) rfl dX10_putAside_9 ?_
        refine lv_iload_n hx hb dX10_putAside_12 rfl (lv_at hl 0 rfl) ?_
        refine lv_aload_n hx hb dX10_putAside_13 rfl (lv_at hl 1 rfl) ?_
        refine va_get (D := D) (ci := 10) (v := .ref h1) (C := RX10) (T := TX10) (N := 16) hx hb hts iX10_putAside_X10 hown hK hP 0 rfl rfl 0 (by decide) (hts (.fieldLink RX10 7 "BarnPicturesModel" "s" "[I") (by decide +kernel)) (fun _ h9 => h9) rfl dX10_putAside_14 ?_
        refine lv_iload_n hx hb dX10_putAside_17 rfl (lv_at hl 0 rfl) ?_
        refine iald_k hx hb hK hP 1 rfl k2 (ix_of (nrf k2) (by omega) (by decide)) dX10_putAside_18 ?_
        refine iast_k hx hb hK hP hD hS 2 rfl k2 (ix_of (nrf k2) (by omega) (by decide)) dX10_putAside_19 (fun H locs hP hD hS => ?_)
        have hP : va_P D vwCl [(h, .inr (10, [.ref h1, .ref h2, .ref h3, .int v.2.2.2.1, .ref h4, .int v.2.2.2.2.2.1, .ref h5, .int v.2.2.2.2.2.2.2.1, .int v.2.2.2.2.2.2.2.2.1, .int v.2.2.2.2.2.2.2.2.2.1, .int v.2.2.2.2.2.2.2.2.2.2.1, .int v.2.2.2.2.2.2.2.2.2.2.2.1, .int v.2.2.2.2.2.2.2.2.2.2.2.2.1, .int v.2.2.2.2.2.2.2.2.2.2.2.2.2.1, .int v.2.2.2.2.2.2.2.2.2.2.2.2.2.2.1, .int v.2.2.2.2.2.2.2.2.2.2.2.2.2.2.2])), (h1, .inl (z.1, 108, .inl v.1)), (h2, .inl (z.1, 108, .inl (upd q2 k2 (v.1 k2)))), (h3, .inl (z.1, 432, .inl v.2.2.1)), (h4, .inl (z.1, 108, .inl v.2.2.2.2.1)), (h5, .inl (z.1, 80, .inl v.2.2.2.2.2.2.1))] H := hP
        have hD : va_D A [(h, .inr (10, [.ref h1, .ref h2, .ref h3, .int v.2.2.2.1, .ref h4, .int v.2.2.2.2.2.1, .ref h5, .int v.2.2.2.2.2.2.2.1, .int v.2.2.2.2.2.2.2.2.1, .int v.2.2.2.2.2.2.2.2.2.1, .int v.2.2.2.2.2.2.2.2.2.2.1, .int v.2.2.2.2.2.2.2.2.2.2.2.1, .int v.2.2.2.2.2.2.2.2.2.2.2.2.1, .int v.2.2.2.2.2.2.2.2.2.2.2.2.2.1, .int v.2.2.2.2.2.2.2.2.2.2.2.2.2.2.1, .int v.2.2.2.2.2.2.2.2.2.2.2.2.2.2.2])), (h1, .inl (z.1, 108, .inl v.1)), (h2, .inl (z.1, 108, .inl (upd q2 k2 (v.1 k2)))), (h3, .inl (z.1, 432, .inl v.2.2.1)), (h4, .inl (z.1, 108, .inl v.2.2.2.2.1)), (h5, .inl (z.1, 80, .inl v.2.2.2.2.2.2.1))] := hD
        refine lv_iinc (v := nI (k2 + 1)) (lv' := [(1, .int (nI (k2 + 1))), (0, .ref h)]) hx hb dX10_putAside_20 hl (k := 0) rfl (nI_add k2 1) (by decide) rfl (fun ls hl => ?_)
        refine lv_goto (tgt := 2) hx hb dX10_putAside_23 (by decide) ?_
        exact ih2 (k2 + 1) (upd q2 k2 (v.1 k2)) (by rw [lp_X10_putAside_2_s, ← hq2]; unfold st_X10_putAside_2; try rfl) (by omega) (by omega) _ _ _ hP hD hS (lv_sub hl [0, 1] rfl)
      · obtain rfl : 108 = k2 := by omega
        refine lv_icmp_ge (tgt := 26) hx hb dX10_putAside_5 (by decide) (fun c_2 => ?_) (fun c_2 => absurd (nI_le (a := 108) (b := 108) (by omega) (by omega)) c_2)
        have hP : va_P D vwCl [(h, .inr (10, [.ref h1, .ref h2, .ref h3, .int v.2.2.2.1, .ref h4, .int v.2.2.2.2.2.1, .ref h5, .int v.2.2.2.2.2.2.2.1, .int v.2.2.2.2.2.2.2.2.1, .int v.2.2.2.2.2.2.2.2.2.1, .int v.2.2.2.2.2.2.2.2.2.2.1, .int v.2.2.2.2.2.2.2.2.2.2.2.1, .int v.2.2.2.2.2.2.2.2.2.2.2.2.1, .int v.2.2.2.2.2.2.2.2.2.2.2.2.2.1, .int v.2.2.2.2.2.2.2.2.2.2.2.2.2.2.1, .int v.2.2.2.2.2.2.2.2.2.2.2.2.2.2.2])), (h1, .inl (z.1, 108, .inl v.1)), (h2, .inl (z.1, 108, .inl q2)), (h3, .inl (z.1, 432, .inl v.2.2.1)), (h4, .inl (z.1, 108, .inl v.2.2.2.2.1)), (h5, .inl (z.1, 80, .inl v.2.2.2.2.2.2.1))] H := hP
        have hD : va_D A [(h, .inr (10, [.ref h1, .ref h2, .ref h3, .int v.2.2.2.1, .ref h4, .int v.2.2.2.2.2.1, .ref h5, .int v.2.2.2.2.2.2.2.1, .int v.2.2.2.2.2.2.2.2.1, .int v.2.2.2.2.2.2.2.2.2.1, .int v.2.2.2.2.2.2.2.2.2.2.1, .int v.2.2.2.2.2.2.2.2.2.2.2.1, .int v.2.2.2.2.2.2.2.2.2.2.2.2.1, .int v.2.2.2.2.2.2.2.2.2.2.2.2.2.1, .int v.2.2.2.2.2.2.2.2.2.2.2.2.2.2.1, .int v.2.2.2.2.2.2.2.2.2.2.2.2.2.2.2])), (h1, .inl (z.1, 108, .inl v.1)), (h2, .inl (z.1, 108, .inl q2)), (h3, .inl (z.1, 432, .inl v.2.2.1)), (h4, .inl (z.1, 108, .inl v.2.2.2.2.1)), (h5, .inl (z.1, 80, .inl v.2.2.2.2.2.2.1))] := hD
        subst hQ
        exact ret_v q2 hx hb hr hK hP hD hS rfl (by unfold f_X10_putAside; rw [← hq2]; unfold f_X10_putAside_2_x; try rfl) dX10_putAside_26 hlocks
  exact L2 (108 + 1) 0 v.2.1 (lp_X10_putAside_2_0 v v.2.1).symm (Nat.zero_le _) (by omega) _ _ _ hP hD hS (lv_sub hl [0, 1] rfl)

theorem iX10_putBack_X10 : ∀ w ∈ wsX100, w ∈ wsX10_putBack := by decide +kernel
def f_X10_putBack_2_x (v : MV) (q2 : (Nat → Int32)) : (Nat → Int32) := q2
def st_X10_putBack_2 (v : MV) (k2 : Nat) (q2 : (Nat → Int32)) : (Nat → Int32) := (upd q2 k2 (v.2.1 k2))
def lp_X10_putBack_2 (v : MV) (i0 : (Nat → Int32)) : Nat → (Nat → Int32)
  | 0 => i0
  | k + 1 => st_X10_putBack_2 v k (lp_X10_putBack_2 v i0 k)
theorem lp_X10_putBack_2_0 (v : MV) (i0 : (Nat → Int32)) : lp_X10_putBack_2 v i0 0 = i0 := rfl
theorem lp_X10_putBack_2_s (v : MV) (i0 : (Nat → Int32)) (k : Nat) : lp_X10_putBack_2 v i0 (k + 1) = st_X10_putBack_2 v k (lp_X10_putBack_2 v i0 k) := rfl
def f_X10_putBack (v : MV) : (Nat → Int32) := f_X10_putBack_2_x v (lp_X10_putBack_2 v v.1 108)
set_option maxRecDepth 100000 in
set_option maxHeartbeats 1000000 in
theorem c_X10_putBack (l : Launch) (D : va_G) (z : ClassId × ClassId × ClassId) (h h1 h2 h3 h4 h5 : Nat) (v : MV) (sz : Nat) : CV l yX10_putBack wsX10_putBack 0 0 0 0 [.ref h] D z (wX10 z h h1 h2 h3 h4 h5 v) sz (E0) (fun (zu : (Nat → Int32)) => zu = f_X10_putBack v) (fun zu => wX10 z h h1 h2 h3 h4 h5 (zu, v.2.1, v.2.2.1, v.2.2.2.1, v.2.2.2.2.1, v.2.2.2.2.2.1, v.2.2.2.2.2.2.1, v.2.2.2.2.2.2.2.1, v.2.2.2.2.2.2.2.2.1, v.2.2.2.2.2.2.2.2.2.1, v.2.2.2.2.2.2.2.2.2.2.1, v.2.2.2.2.2.2.2.2.2.2.2.1, v.2.2.2.2.2.2.2.2.2.2.2.2.1, v.2.2.2.2.2.2.2.2.2.2.2.2.2.1, v.2.2.2.2.2.2.2.2.2.2.2.2.2.2.1, v.2.2.2.2.2.2.2.2.2.2.2.2.2.2.2)) := by
  refine met_v cX10_putBack 2 (by decide) rfl (Nat.le_of_ble_eq_true rfl) ?_
  intro p e s m args below meth c R Q hx hb hr hml hts hown hlocks hin hRf hRl hRc hRs hc0 hs0 A H hA hP hK hD hS hE hQ ls hl
  have hl : lv_has ls 2 [(0, .ref h)] := hl
  have hP : va_P D vwCl [(h, .inr (10, [.ref h1, .ref h2, .ref h3, .int v.2.2.2.1, .ref h4, .int v.2.2.2.2.2.1, .ref h5, .int v.2.2.2.2.2.2.2.1, .int v.2.2.2.2.2.2.2.2.1, .int v.2.2.2.2.2.2.2.2.2.1, .int v.2.2.2.2.2.2.2.2.2.2.1, .int v.2.2.2.2.2.2.2.2.2.2.2.1, .int v.2.2.2.2.2.2.2.2.2.2.2.2.1, .int v.2.2.2.2.2.2.2.2.2.2.2.2.2.1, .int v.2.2.2.2.2.2.2.2.2.2.2.2.2.2.1, .int v.2.2.2.2.2.2.2.2.2.2.2.2.2.2.2])), (h1, .inl (z.1, 108, .inl v.1)), (h2, .inl (z.1, 108, .inl v.2.1)), (h3, .inl (z.1, 432, .inl v.2.2.1)), (h4, .inl (z.1, 108, .inl v.2.2.2.2.1)), (h5, .inl (z.1, 80, .inl v.2.2.2.2.2.2.1))] H := hP
  have hD : va_D A [(h, .inr (10, [.ref h1, .ref h2, .ref h3, .int v.2.2.2.1, .ref h4, .int v.2.2.2.2.2.1, .ref h5, .int v.2.2.2.2.2.2.2.1, .int v.2.2.2.2.2.2.2.2.1, .int v.2.2.2.2.2.2.2.2.2.1, .int v.2.2.2.2.2.2.2.2.2.2.1, .int v.2.2.2.2.2.2.2.2.2.2.2.1, .int v.2.2.2.2.2.2.2.2.2.2.2.2.1, .int v.2.2.2.2.2.2.2.2.2.2.2.2.2.1, .int v.2.2.2.2.2.2.2.2.2.2.2.2.2.2.1, .int v.2.2.2.2.2.2.2.2.2.2.2.2.2.2.2])), (h1, .inl (z.1, 108, .inl v.1)), (h2, .inl (z.1, 108, .inl v.2.1)), (h3, .inl (z.1, 432, .inl v.2.2.1)), (h4, .inl (z.1, 108, .inl v.2.2.2.2.1)), (h5, .inl (z.1, 80, .inl v.2.2.2.2.2.2.1))] := hD
  have hown : s.vm.findClass RX10 = some m.cls := hown
  refine lv_iconst (v := 0) hx hb dX10_putBack_0 (by decide) ?_
  refine lv_istore_n (lv' := [(1, .int 0), (0, .ref h)]) hx hb dX10_putBack_1 rfl hl (by decide) rfl (fun ls hl => ?_)
  have L2 : ∀ (n2 k2 : Nat) (q2 : (Nat → Int32)), q2 = lp_X10_putBack_2 v v.1 k2 → k2 ≤ 108 → 108 + 1 ≤ k2 + n2 → ∀ (H : Heap) (locs : List Loc) (ls : Array Slot), va_P D vwCl [(h, .inr (10, [.ref h1, .ref h2, .ref h3, .int v.2.2.2.1, .ref h4, .int v.2.2.2.2.2.1, .ref h5, .int v.2.2.2.2.2.2.2.1, .int v.2.2.2.2.2.2.2.2.1, .int v.2.2.2.2.2.2.2.2.2.1, .int v.2.2.2.2.2.2.2.2.2.2.1, .int v.2.2.2.2.2.2.2.2.2.2.2.1, .int v.2.2.2.2.2.2.2.2.2.2.2.2.1, .int v.2.2.2.2.2.2.2.2.2.2.2.2.2.1, .int v.2.2.2.2.2.2.2.2.2.2.2.2.2.2.1, .int v.2.2.2.2.2.2.2.2.2.2.2.2.2.2.2])), (h1, .inl (z.1, 108, .inl q2)), (h2, .inl (z.1, 108, .inl v.2.1)), (h3, .inl (z.1, 432, .inl v.2.2.1)), (h4, .inl (z.1, 108, .inl v.2.2.2.2.1)), (h5, .inl (z.1, 80, .inl v.2.2.2.2.2.2.1))] H → va_D A [(h, .inr (10, [.ref h1, .ref h2, .ref h3, .int v.2.2.2.1, .ref h4, .int v.2.2.2.2.2.1, .ref h5, .int v.2.2.2.2.2.2.2.1, .int v.2.2.2.2.2.2.2.2.1, .int v.2.2.2.2.2.2.2.2.2.1, .int v.2.2.2.2.2.2.2.2.2.2.1, .int v.2.2.2.2.2.2.2.2.2.2.2.1, .int v.2.2.2.2.2.2.2.2.2.2.2.2.1, .int v.2.2.2.2.2.2.2.2.2.2.2.2.2.1, .int v.2.2.2.2.2.2.2.2.2.2.2.2.2.2.1, .int v.2.2.2.2.2.2.2.2.2.2.2.2.2.2.2])), (h1, .inl (z.1, 108, .inl q2)), (h2, .inl (z.1, 108, .inl v.2.1)), (h3, .inl (z.1, 432, .inl v.2.2.1)), (h4, .inl (z.1, 108, .inl v.2.2.2.2.1)), (h5, .inl (z.1, 80, .inl v.2.2.2.2.2.2.1))] → va_S A s.heap H locs → lv_has ls 2 [(1, .int (nI k2)), (0, .ref h)] → W p l e R s m args below meth c H locs 0 0 Q (F0 m 2 ls []) := by
    intro n2
    induction n2 with
    | zero => intro k2 q2 hq2 h1 h2; exact absurd h2 (by omega)
    | succ n2 ih2 =>
      intro k2 q2 hq2 hk2 hn2 H locs ls hP hD hS hl
      refine lv_iload_n hx hb dX10_putBack_2 rfl (lv_at hl 0 rfl) ?_
      refine lv_bipush (v := 108) hx hb dX10_putBack_3 (by decide) ?_
      rcases Nat.lt_or_ge k2 108 with hlt | hge
      · refine lv_icmp_ge (tgt := 26) hx hb dX10_putBack_5 (by decide) (fun c_2 => absurd c_2 (nI_ge (a := k2) (b := 108) (by omega) (by omega))) (fun c_2 => ?_)
        refine lv_aload_n hx hb dX10_putBack_8 rfl (lv_at hl 1 rfl) ?_
        refine va_get (D := D) (ci := 10) (v := .ref h1) (C := RX10) (T := TX10) (N := 16) hx hb hts iX10_putBack_X10 hown hK hP 0 rfl rfl 0 (by decide) (hts (.fieldLink RX10 7 "BarnPicturesModel" "s" "[I") (by decide +kernel)) (fun _ h9 => h9) rfl dX10_putBack_9 ?_
        refine lv_iload_n hx hb dX10_putBack_12 rfl (lv_at hl 0 rfl) ?_
        refine lv_aload_n hx hb dX10_putBack_13 rfl (lv_at hl 1 rfl) ?_
        refine va_get (D := D) (ci := 10) (v := .ref h2) (C := RX10) (T := TX10) (N := 16) hx hb hts iX10_putBack_X10 hown hK hP 0 rfl rfl 1 (by decide) (hts (.fieldLink RX10 13 "BarnPicturesModel" "aside" "[I") (by decide +kernel)) (fun _ h9 => h9) rfl dX10_putBack_14 ?_
        refine lv_iload_n hx hb dX10_putBack_17 rfl (lv_at hl 0 rfl) ?_
        refine iald_k hx hb hK hP 2 rfl k2 (ix_of (nrf k2) (by omega) (by decide)) dX10_putBack_18 ?_
        refine iast_k hx hb hK hP hD hS 1 rfl k2 (ix_of (nrf k2) (by omega) (by decide)) dX10_putBack_19 (fun H locs hP hD hS => ?_)
        have hP : va_P D vwCl [(h, .inr (10, [.ref h1, .ref h2, .ref h3, .int v.2.2.2.1, .ref h4, .int v.2.2.2.2.2.1, .ref h5, .int v.2.2.2.2.2.2.2.1, .int v.2.2.2.2.2.2.2.2.1, .int v.2.2.2.2.2.2.2.2.2.1, .int v.2.2.2.2.2.2.2.2.2.2.1, .int v.2.2.2.2.2.2.2.2.2.2.2.1, .int v.2.2.2.2.2.2.2.2.2.2.2.2.1, .int v.2.2.2.2.2.2.2.2.2.2.2.2.2.1, .int v.2.2.2.2.2.2.2.2.2.2.2.2.2.2.1, .int v.2.2.2.2.2.2.2.2.2.2.2.2.2.2.2])), (h1, .inl (z.1, 108, .inl (upd q2 k2 (v.2.1 k2)))), (h2, .inl (z.1, 108, .inl v.2.1)), (h3, .inl (z.1, 432, .inl v.2.2.1)), (h4, .inl (z.1, 108, .inl v.2.2.2.2.1)), (h5, .inl (z.1, 80, .inl v.2.2.2.2.2.2.1))] H := hP
        have hD : va_D A [(h, .inr (10, [.ref h1, .ref h2, .ref h3, .int v.2.2.2.1, .ref h4, .int v.2.2.2.2.2.1, .ref h5, .int v.2.2.2.2.2.2.2.1, .int v.2.2.2.2.2.2.2.2.1, .int v.2.2.2.2.2.2.2.2.2.1, .int v.2.2.2.2.2.2.2.2.2.2.1, .int v.2.2.2.2.2.2.2.2.2.2.2.1, .int v.2.2.2.2.2.2.2.2.2.2.2.2.1, .int v.2.2.2.2.2.2.2.2.2.2.2.2.2.1, .int v.2.2.2.2.2.2.2.2.2.2.2.2.2.2.1, .int v.2.2.2.2.2.2.2.2.2.2.2.2.2.2.2])), (h1, .inl (z.1, 108, .inl (upd q2 k2 (v.2.1 k2)))), (h2, .inl (z.1, 108, .inl v.2.1)), (h3, .inl (z.1, 432, .inl v.2.2.1)), (h4, .inl (z.1, 108, .inl v.2.2.2.2.1)), (h5, .inl (z.1, 80, .inl v.2.2.2.2.2.2.1))] := hD
        refine lv_iinc (v := nI (k2 + 1)) (lv' := [(1, .int (nI (k2 + 1))), (0, .ref h)]) hx hb dX10_putBack_20 hl (k := 0) rfl (nI_add k2 1) (by decide) rfl (fun ls hl => ?_)
        refine lv_goto (tgt := 2) hx hb dX10_putBack_23 (by decide) ?_
        exact ih2 (k2 + 1) (upd q2 k2 (v.2.1 k2)) (by rw [lp_X10_putBack_2_s, ← hq2]; unfold st_X10_putBack_2; try rfl) (by omega) (by omega) _ _ _ hP hD hS (lv_sub hl [0, 1] rfl)
      · obtain rfl : 108 = k2 := by omega
        refine lv_icmp_ge (tgt := 26) hx hb dX10_putBack_5 (by decide) (fun c_2 => ?_) (fun c_2 => absurd (nI_le (a := 108) (b := 108) (by omega) (by omega)) c_2)
        have hP : va_P D vwCl [(h, .inr (10, [.ref h1, .ref h2, .ref h3, .int v.2.2.2.1, .ref h4, .int v.2.2.2.2.2.1, .ref h5, .int v.2.2.2.2.2.2.2.1, .int v.2.2.2.2.2.2.2.2.1, .int v.2.2.2.2.2.2.2.2.2.1, .int v.2.2.2.2.2.2.2.2.2.2.1, .int v.2.2.2.2.2.2.2.2.2.2.2.1, .int v.2.2.2.2.2.2.2.2.2.2.2.2.1, .int v.2.2.2.2.2.2.2.2.2.2.2.2.2.1, .int v.2.2.2.2.2.2.2.2.2.2.2.2.2.2.1, .int v.2.2.2.2.2.2.2.2.2.2.2.2.2.2.2])), (h1, .inl (z.1, 108, .inl q2)), (h2, .inl (z.1, 108, .inl v.2.1)), (h3, .inl (z.1, 432, .inl v.2.2.1)), (h4, .inl (z.1, 108, .inl v.2.2.2.2.1)), (h5, .inl (z.1, 80, .inl v.2.2.2.2.2.2.1))] H := hP
        have hD : va_D A [(h, .inr (10, [.ref h1, .ref h2, .ref h3, .int v.2.2.2.1, .ref h4, .int v.2.2.2.2.2.1, .ref h5, .int v.2.2.2.2.2.2.2.1, .int v.2.2.2.2.2.2.2.2.1, .int v.2.2.2.2.2.2.2.2.2.1, .int v.2.2.2.2.2.2.2.2.2.2.1, .int v.2.2.2.2.2.2.2.2.2.2.2.1, .int v.2.2.2.2.2.2.2.2.2.2.2.2.1, .int v.2.2.2.2.2.2.2.2.2.2.2.2.2.1, .int v.2.2.2.2.2.2.2.2.2.2.2.2.2.2.1, .int v.2.2.2.2.2.2.2.2.2.2.2.2.2.2.2])), (h1, .inl (z.1, 108, .inl q2)), (h2, .inl (z.1, 108, .inl v.2.1)), (h3, .inl (z.1, 432, .inl v.2.2.1)), (h4, .inl (z.1, 108, .inl v.2.2.2.2.1)), (h5, .inl (z.1, 80, .inl v.2.2.2.2.2.2.1))] := hD
        subst hQ
        exact ret_v q2 hx hb hr hK hP hD hS rfl (by unfold f_X10_putBack; rw [← hq2]; unfold f_X10_putBack_2_x; try rfl) dX10_putBack_26 hlocks
  exact L2 (108 + 1) 0 v.1 (lp_X10_putBack_2_0 v v.1).symm (Nat.zero_le _) (by omega) _ _ _ hP hD hS (lv_sub hl [0, 1] rfl)

theorem iX10_puts_X10 : ∀ w ∈ wsX100, w ∈ wsX10_puts := by decide +kernel
def f_X10_puts (v : MV) (x : Int32) (xn : Nat) (y : Int32) : Int32 × (Nat → Int32) := ((v.1 xn), (upd v.1 xn y))
set_option maxRecDepth 100000 in
set_option maxHeartbeats 1000000 in
theorem c_X10_puts (l : Launch) (D : va_G) (z : ClassId × ClassId × ClassId) (h h1 h2 h3 h4 h5 : Nat) (v : MV) (x : Int32) (xn : Nat) (ee_x : x = nI xn) (bb_x : xn < 108) (y : Int32) (sz : Nat) : CI l yX10_puts wsX10_puts 0 0 0 0 [.ref h, .int x, .int y] D z (wX10 z h h1 h2 h3 h4 h5 v) sz (E0) (fun (zr : Int32) (zu : (Nat → Int32)) => (zr, zu) = f_X10_puts v x xn y) (fun zu => wX10 z h h1 h2 h3 h4 h5 (zu, v.2.1, v.2.2.1, v.2.2.2.1, v.2.2.2.2.1, v.2.2.2.2.2.1, v.2.2.2.2.2.2.1, v.2.2.2.2.2.2.2.1, v.2.2.2.2.2.2.2.2.1, v.2.2.2.2.2.2.2.2.2.1, v.2.2.2.2.2.2.2.2.2.2.1, v.2.2.2.2.2.2.2.2.2.2.2.1, v.2.2.2.2.2.2.2.2.2.2.2.2.1, v.2.2.2.2.2.2.2.2.2.2.2.2.2.1, v.2.2.2.2.2.2.2.2.2.2.2.2.2.2.1, v.2.2.2.2.2.2.2.2.2.2.2.2.2.2.2)) := by
  refine met_i cX10_puts 4 (some .int) (by decide) rfl (Nat.le_of_ble_eq_true rfl) ?_
  intro p e s m args below meth c R Q hx hb hr hml hts hown hlocks hin hRf hRl hRc hRs hc0 hs0 A H hA hP hK hD hS hE hQ ls hl
  have hl : lv_has ls 4 [(0, .ref h), (1, .int x), (2, .int y)] := hl
  have hP : va_P D vwCl [(h, .inr (10, [.ref h1, .ref h2, .ref h3, .int v.2.2.2.1, .ref h4, .int v.2.2.2.2.2.1, .ref h5, .int v.2.2.2.2.2.2.2.1, .int v.2.2.2.2.2.2.2.2.1, .int v.2.2.2.2.2.2.2.2.2.1, .int v.2.2.2.2.2.2.2.2.2.2.1, .int v.2.2.2.2.2.2.2.2.2.2.2.1, .int v.2.2.2.2.2.2.2.2.2.2.2.2.1, .int v.2.2.2.2.2.2.2.2.2.2.2.2.2.1, .int v.2.2.2.2.2.2.2.2.2.2.2.2.2.2.1, .int v.2.2.2.2.2.2.2.2.2.2.2.2.2.2.2])), (h1, .inl (z.1, 108, .inl v.1)), (h2, .inl (z.1, 108, .inl v.2.1)), (h3, .inl (z.1, 432, .inl v.2.2.1)), (h4, .inl (z.1, 108, .inl v.2.2.2.2.1)), (h5, .inl (z.1, 80, .inl v.2.2.2.2.2.2.1))] H := hP
  have hD : va_D A [(h, .inr (10, [.ref h1, .ref h2, .ref h3, .int v.2.2.2.1, .ref h4, .int v.2.2.2.2.2.1, .ref h5, .int v.2.2.2.2.2.2.2.1, .int v.2.2.2.2.2.2.2.2.1, .int v.2.2.2.2.2.2.2.2.2.1, .int v.2.2.2.2.2.2.2.2.2.2.1, .int v.2.2.2.2.2.2.2.2.2.2.2.1, .int v.2.2.2.2.2.2.2.2.2.2.2.2.1, .int v.2.2.2.2.2.2.2.2.2.2.2.2.2.1, .int v.2.2.2.2.2.2.2.2.2.2.2.2.2.2.1, .int v.2.2.2.2.2.2.2.2.2.2.2.2.2.2.2])), (h1, .inl (z.1, 108, .inl v.1)), (h2, .inl (z.1, 108, .inl v.2.1)), (h3, .inl (z.1, 432, .inl v.2.2.1)), (h4, .inl (z.1, 108, .inl v.2.2.2.2.1)), (h5, .inl (z.1, 80, .inl v.2.2.2.2.2.2.1))] := hD
  have hown : s.vm.findClass RX10 = some m.cls := hown
  refine lv_aload_n hx hb dX10_puts_0 rfl (lv_at hl 0 rfl) ?_
  refine va_get (D := D) (ci := 10) (v := .ref h1) (C := RX10) (T := TX10) (N := 16) hx hb hts iX10_puts_X10 hown hK hP 0 rfl rfl 0 (by decide) (hts (.fieldLink RX10 7 "BarnPicturesModel" "s" "[I") (by decide +kernel)) (fun _ h9 => h9) rfl dX10_puts_1 ?_
  refine lv_iload_n hx hb dX10_puts_4 rfl (lv_at hl 1 rfl) ?_
  refine iald_k hx hb hK hP 1 rfl xn (ix_of ee_x (by omega) (by decide)) dX10_puts_5 ?_
  refine lv_istore_n (lv' := [(3, .int (v.1 xn)), (0, .ref h), (1, .int x), (2, .int y)]) hx hb dX10_puts_6 rfl hl (by decide) rfl (fun ls hl => ?_)
  refine lv_aload_n hx hb dX10_puts_7 rfl (lv_at hl 1 rfl) ?_
  refine va_get (D := D) (ci := 10) (v := .ref h1) (C := RX10) (T := TX10) (N := 16) hx hb hts iX10_puts_X10 hown hK hP 0 rfl rfl 0 (by decide) (hts (.fieldLink RX10 7 "BarnPicturesModel" "s" "[I") (by decide +kernel)) (fun _ h9 => h9) rfl dX10_puts_8 ?_
  refine lv_iload_n hx hb dX10_puts_11 rfl (lv_at hl 2 rfl) ?_
  refine lv_iload_n hx hb dX10_puts_12 rfl (lv_at hl 3 rfl) ?_
  refine iast_k hx hb hK hP hD hS 1 rfl xn (ix_of ee_x (by omega) (by decide)) dX10_puts_13 (fun H locs hP hD hS => ?_)
  have hP : va_P D vwCl [(h, .inr (10, [.ref h1, .ref h2, .ref h3, .int v.2.2.2.1, .ref h4, .int v.2.2.2.2.2.1, .ref h5, .int v.2.2.2.2.2.2.2.1, .int v.2.2.2.2.2.2.2.2.1, .int v.2.2.2.2.2.2.2.2.2.1, .int v.2.2.2.2.2.2.2.2.2.2.1, .int v.2.2.2.2.2.2.2.2.2.2.2.1, .int v.2.2.2.2.2.2.2.2.2.2.2.2.1, .int v.2.2.2.2.2.2.2.2.2.2.2.2.2.1, .int v.2.2.2.2.2.2.2.2.2.2.2.2.2.2.1, .int v.2.2.2.2.2.2.2.2.2.2.2.2.2.2.2])), (h1, .inl (z.1, 108, .inl (upd v.1 xn y))), (h2, .inl (z.1, 108, .inl v.2.1)), (h3, .inl (z.1, 432, .inl v.2.2.1)), (h4, .inl (z.1, 108, .inl v.2.2.2.2.1)), (h5, .inl (z.1, 80, .inl v.2.2.2.2.2.2.1))] H := hP
  have hD : va_D A [(h, .inr (10, [.ref h1, .ref h2, .ref h3, .int v.2.2.2.1, .ref h4, .int v.2.2.2.2.2.1, .ref h5, .int v.2.2.2.2.2.2.2.1, .int v.2.2.2.2.2.2.2.2.1, .int v.2.2.2.2.2.2.2.2.2.1, .int v.2.2.2.2.2.2.2.2.2.2.1, .int v.2.2.2.2.2.2.2.2.2.2.2.1, .int v.2.2.2.2.2.2.2.2.2.2.2.2.1, .int v.2.2.2.2.2.2.2.2.2.2.2.2.2.1, .int v.2.2.2.2.2.2.2.2.2.2.2.2.2.2.1, .int v.2.2.2.2.2.2.2.2.2.2.2.2.2.2.2])), (h1, .inl (z.1, 108, .inl (upd v.1 xn y))), (h2, .inl (z.1, 108, .inl v.2.1)), (h3, .inl (z.1, 432, .inl v.2.2.1)), (h4, .inl (z.1, 108, .inl v.2.2.2.2.1)), (h5, .inl (z.1, 80, .inl v.2.2.2.2.2.2.1))] := hD
  refine lv_iload_n hx hb dX10_puts_14 rfl (lv_at hl 0 rfl) ?_
  subst hQ
  exact ret_i (upd v.1 xn y) hx hb hr hK hP hD hS rfl rfl dX10_puts_15 hlocks

theorem iX10_sum_X10 : ∀ w ∈ wsX100, w ∈ wsX10_sum := by decide +kernel
def f_X10_sum_5_x (s : (Nat → Int32)) (x : Int32) (xn : Nat) (y : Int32) (yn : Nat) (q5 : Int32) : Int32 := q5
def st_X10_sum_5 (s : (Nat → Int32)) (x : Int32) (xn : Nat) (y : Int32) (yn : Nat) (k5 : Nat) (q5 : Int32) : Int32 := (q5 + (s (xn + k5)))
def lp_X10_sum_5 (s : (Nat → Int32)) (x : Int32) (xn : Nat) (y : Int32) (yn : Nat) (i0 : Int32) : Nat → Int32
  | 0 => i0
  | k + 1 => st_X10_sum_5 s x xn y yn k (lp_X10_sum_5 s x xn y yn i0 k)
theorem lp_X10_sum_5_0 (s : (Nat → Int32)) (x : Int32) (xn : Nat) (y : Int32) (yn : Nat) (i0 : Int32) : lp_X10_sum_5 s x xn y yn i0 0 = i0 := rfl
theorem lp_X10_sum_5_s (s : (Nat → Int32)) (x : Int32) (xn : Nat) (y : Int32) (yn : Nat) (i0 : Int32) (k : Nat) : lp_X10_sum_5 s x xn y yn i0 (k + 1) = st_X10_sum_5 s x xn y yn k (lp_X10_sum_5 s x xn y yn i0 k) := rfl
def f_X10_sum (s : (Nat → Int32)) (x : Int32) (xn : Nat) (y : Int32) (yn : Nat) : Int32 := f_X10_sum_5_x s x xn y yn (lp_X10_sum_5 s x xn y yn 0 yn)
set_option maxRecDepth 100000 in
set_option maxHeartbeats 1000000 in
theorem c_X10_sum (l : Launch) (D : va_G) (z : ClassId × ClassId × ClassId) (h h1 h2 h3 h4 h5 : Nat) (v : MV) (x : Int32) (xn : Nat) (ee_x : x = nI xn) (bb_x : xn < 108) (y : Int32) (yn : Nat) (ee_y : y = nI yn) (bb_y : yn < 20) (hs : xn + yn ≤ 108) (sz : Nat) : CI l yX10_sum wsX10_sum 0 0 0 0 [.ref h, .int x, .int y] D z (wX10 z h h1 h2 h3 h4 h5 v) sz (E0) (fun (zr : Int32) (_ : Unit) => zr = f_X10_sum v.1 x xn y yn) (fun _ => wX10 z h h1 h2 h3 h4 h5 v) := by
  refine met_i cX10_sum 5 (some .int) (by decide) rfl (Nat.le_of_ble_eq_true rfl) ?_
  intro p e s m args below meth c R Q hx hb hr hml hts hown hlocks hin hRf hRl hRc hRs hc0 hs0 A H hA hP hK hD hS hE hQ ls hl
  have hl : lv_has ls 5 [(0, .ref h), (1, .int x), (2, .int y)] := hl
  have hP : va_P D vwCl [(h, .inr (10, [.ref h1, .ref h2, .ref h3, .int v.2.2.2.1, .ref h4, .int v.2.2.2.2.2.1, .ref h5, .int v.2.2.2.2.2.2.2.1, .int v.2.2.2.2.2.2.2.2.1, .int v.2.2.2.2.2.2.2.2.2.1, .int v.2.2.2.2.2.2.2.2.2.2.1, .int v.2.2.2.2.2.2.2.2.2.2.2.1, .int v.2.2.2.2.2.2.2.2.2.2.2.2.1, .int v.2.2.2.2.2.2.2.2.2.2.2.2.2.1, .int v.2.2.2.2.2.2.2.2.2.2.2.2.2.2.1, .int v.2.2.2.2.2.2.2.2.2.2.2.2.2.2.2])), (h1, .inl (z.1, 108, .inl v.1)), (h2, .inl (z.1, 108, .inl v.2.1)), (h3, .inl (z.1, 432, .inl v.2.2.1)), (h4, .inl (z.1, 108, .inl v.2.2.2.2.1)), (h5, .inl (z.1, 80, .inl v.2.2.2.2.2.2.1))] H := hP
  have hD : va_D A [(h, .inr (10, [.ref h1, .ref h2, .ref h3, .int v.2.2.2.1, .ref h4, .int v.2.2.2.2.2.1, .ref h5, .int v.2.2.2.2.2.2.2.1, .int v.2.2.2.2.2.2.2.2.1, .int v.2.2.2.2.2.2.2.2.2.1, .int v.2.2.2.2.2.2.2.2.2.2.1, .int v.2.2.2.2.2.2.2.2.2.2.2.1, .int v.2.2.2.2.2.2.2.2.2.2.2.2.1, .int v.2.2.2.2.2.2.2.2.2.2.2.2.2.1, .int v.2.2.2.2.2.2.2.2.2.2.2.2.2.2.1, .int v.2.2.2.2.2.2.2.2.2.2.2.2.2.2.2])), (h1, .inl (z.1, 108, .inl v.1)), (h2, .inl (z.1, 108, .inl v.2.1)), (h3, .inl (z.1, 432, .inl v.2.2.1)), (h4, .inl (z.1, 108, .inl v.2.2.2.2.1)), (h5, .inl (z.1, 80, .inl v.2.2.2.2.2.2.1))] := hD
  have hown : s.vm.findClass RX10 = some m.cls := hown
  refine lv_iconst (v := 0) hx hb dX10_sum_0 (by decide) ?_
  refine lv_istore_n (lv' := [(3, .int 0), (0, .ref h), (1, .int x), (2, .int y)]) hx hb dX10_sum_1 rfl hl (by decide) rfl (fun ls hl => ?_)
  refine lv_iconst (v := 0) hx hb dX10_sum_2 (by decide) ?_
  refine lv_istore (lv' := [(4, .int 0), (3, .int 0), (0, .ref h), (1, .int x), (2, .int y)]) hx hb dX10_sum_3 hl (by decide) rfl (fun ls hl => ?_)
  have L5 : ∀ (n5 k5 : Nat) (q5 : Int32), q5 = lp_X10_sum_5 v.1 x xn y yn 0 k5 → k5 ≤ yn → yn + 1 ≤ k5 + n5 → ∀ (H : Heap) (locs : List Loc) (ls : Array Slot), va_P D vwCl [(h, .inr (10, [.ref h1, .ref h2, .ref h3, .int v.2.2.2.1, .ref h4, .int v.2.2.2.2.2.1, .ref h5, .int v.2.2.2.2.2.2.2.1, .int v.2.2.2.2.2.2.2.2.1, .int v.2.2.2.2.2.2.2.2.2.1, .int v.2.2.2.2.2.2.2.2.2.2.1, .int v.2.2.2.2.2.2.2.2.2.2.2.1, .int v.2.2.2.2.2.2.2.2.2.2.2.2.1, .int v.2.2.2.2.2.2.2.2.2.2.2.2.2.1, .int v.2.2.2.2.2.2.2.2.2.2.2.2.2.2.1, .int v.2.2.2.2.2.2.2.2.2.2.2.2.2.2.2])), (h1, .inl (z.1, 108, .inl v.1)), (h2, .inl (z.1, 108, .inl v.2.1)), (h3, .inl (z.1, 432, .inl v.2.2.1)), (h4, .inl (z.1, 108, .inl v.2.2.2.2.1)), (h5, .inl (z.1, 80, .inl v.2.2.2.2.2.2.1))] H → va_D A [(h, .inr (10, [.ref h1, .ref h2, .ref h3, .int v.2.2.2.1, .ref h4, .int v.2.2.2.2.2.1, .ref h5, .int v.2.2.2.2.2.2.2.1, .int v.2.2.2.2.2.2.2.2.1, .int v.2.2.2.2.2.2.2.2.2.1, .int v.2.2.2.2.2.2.2.2.2.2.1, .int v.2.2.2.2.2.2.2.2.2.2.2.1, .int v.2.2.2.2.2.2.2.2.2.2.2.2.1, .int v.2.2.2.2.2.2.2.2.2.2.2.2.2.1, .int v.2.2.2.2.2.2.2.2.2.2.2.2.2.2.1, .int v.2.2.2.2.2.2.2.2.2.2.2.2.2.2.2])), (h1, .inl (z.1, 108, .inl v.1)), (h2, .inl (z.1, 108, .inl v.2.1)), (h3, .inl (z.1, 432, .inl v.2.2.1)), (h4, .inl (z.1, 108, .inl v.2.2.2.2.1)), (h5, .inl (z.1, 80, .inl v.2.2.2.2.2.2.1))] → va_S A s.heap H locs → lv_has ls 5 [(4, .int (nI k5)), (3, .int q5), (0, .ref h), (1, .int x), (2, .int y)] → W p l e R s m args below meth c H locs 0 0 Q (F0 m 5 ls []) := by
    intro n5
    induction n5 with
    | zero => intro k5 q5 hq5 h1 h2; exact absurd h2 (by omega)
    | succ n5 ih5 =>
      intro k5 q5 hq5 hk5 hn5 H locs ls hP hD hS hl
      refine lv_iload hx hb dX10_sum_5 (lv_at hl 0 rfl) ?_
      refine lv_iload_n hx hb dX10_sum_7 rfl (lv_at hl 4 rfl) ?_
      rcases Nat.lt_or_ge k5 yn with hlt | hge
      · refine lv_icmp_ge (tgt := 29) hx hb dX10_sum_8 (by decide) (fun c_2 => absurd ((nle_iff ee_y (nrf k5) (by omega) (by omega)).mp c_2) (by omega)) (fun c_2 => ?_)
        refine lv_iload_n hx hb dX10_sum_11 rfl (lv_at hl 1 rfl) ?_
        refine lv_aload_n hx hb dX10_sum_12 rfl (lv_at hl 2 rfl) ?_
        refine va_get (D := D) (ci := 10) (v := .ref h1) (C := RX10) (T := TX10) (N := 16) hx hb hts iX10_sum_X10 hown hK hP 0 rfl rfl 0 (by decide) (hts (.fieldLink RX10 7 "BarnPicturesModel" "s" "[I") (by decide +kernel)) (fun _ h9 => h9) rfl dX10_sum_13 ?_
        refine lv_iload_n hx hb dX10_sum_16 rfl (lv_at hl 3 rfl) ?_
        refine lv_iload hx hb dX10_sum_17 (lv_at hl 0 rfl) ?_
        refine lv_iadd hx hb dX10_sum_19 ?_
        refine iald_k hx hb hK hP 1 rfl (xn + k5) (ix_of (nadd ee_x (nrf k5)) (by omega) (by decide)) dX10_sum_20 ?_
        refine lv_iadd hx hb dX10_sum_21 ?_
        refine lv_istore_n (lv' := [(3, .int (q5 + (v.1 (xn + k5)))), (4, .int (nI k5)), (0, .ref h), (1, .int x), (2, .int y)]) hx hb dX10_sum_22 rfl hl (by decide) rfl (fun ls hl => ?_)
        refine lv_iinc (v := nI (k5 + 1)) (lv' := [(4, .int (nI (k5 + 1))), (3, .int (q5 + (v.1 (xn + k5)))), (0, .ref h), (1, .int x), (2, .int y)]) hx hb dX10_sum_23 hl (k := 1) rfl (nI_add k5 1) (by decide) rfl (fun ls hl => ?_)
        refine lv_goto (tgt := 5) hx hb dX10_sum_26 (by decide) ?_
        exact ih5 (k5 + 1) (q5 + (v.1 (xn + k5))) (by rw [lp_X10_sum_5_s, ← hq5]; unfold st_X10_sum_5; try rfl) (by omega) (by omega) _ _ _ hP hD hS (lv_sub hl [0, 1, 2, 3, 4] rfl)
      · obtain rfl : yn = k5 := by omega
        refine lv_icmp_ge (tgt := 29) hx hb dX10_sum_8 (by decide) (fun c_2 => ?_) (fun c_2 => absurd ((nle_iff ee_y (nrf yn) (by omega) (by omega)).mpr (by omega)) c_2)
        have hP : va_P D vwCl [(h, .inr (10, [.ref h1, .ref h2, .ref h3, .int v.2.2.2.1, .ref h4, .int v.2.2.2.2.2.1, .ref h5, .int v.2.2.2.2.2.2.2.1, .int v.2.2.2.2.2.2.2.2.1, .int v.2.2.2.2.2.2.2.2.2.1, .int v.2.2.2.2.2.2.2.2.2.2.1, .int v.2.2.2.2.2.2.2.2.2.2.2.1, .int v.2.2.2.2.2.2.2.2.2.2.2.2.1, .int v.2.2.2.2.2.2.2.2.2.2.2.2.2.1, .int v.2.2.2.2.2.2.2.2.2.2.2.2.2.2.1, .int v.2.2.2.2.2.2.2.2.2.2.2.2.2.2.2])), (h1, .inl (z.1, 108, .inl v.1)), (h2, .inl (z.1, 108, .inl v.2.1)), (h3, .inl (z.1, 432, .inl v.2.2.1)), (h4, .inl (z.1, 108, .inl v.2.2.2.2.1)), (h5, .inl (z.1, 80, .inl v.2.2.2.2.2.2.1))] H := hP
        have hD : va_D A [(h, .inr (10, [.ref h1, .ref h2, .ref h3, .int v.2.2.2.1, .ref h4, .int v.2.2.2.2.2.1, .ref h5, .int v.2.2.2.2.2.2.2.1, .int v.2.2.2.2.2.2.2.2.1, .int v.2.2.2.2.2.2.2.2.2.1, .int v.2.2.2.2.2.2.2.2.2.2.1, .int v.2.2.2.2.2.2.2.2.2.2.2.1, .int v.2.2.2.2.2.2.2.2.2.2.2.2.1, .int v.2.2.2.2.2.2.2.2.2.2.2.2.2.1, .int v.2.2.2.2.2.2.2.2.2.2.2.2.2.2.1, .int v.2.2.2.2.2.2.2.2.2.2.2.2.2.2.2])), (h1, .inl (z.1, 108, .inl v.1)), (h2, .inl (z.1, 108, .inl v.2.1)), (h3, .inl (z.1, 432, .inl v.2.2.1)), (h4, .inl (z.1, 108, .inl v.2.2.2.2.1)), (h5, .inl (z.1, 80, .inl v.2.2.2.2.2.2.1))] := hD
        refine lv_iload_n hx hb dX10_sum_29 rfl (lv_at hl 1 rfl) ?_
        subst hQ
        exact ret_i () hx hb hr hK hP hD hS rfl (by unfold f_X10_sum; rw [← hq5]; unfold f_X10_sum_5_x; try rfl) dX10_sum_30 hlocks
  exact L5 (yn + 1) 0 0 (lp_X10_sum_5_0 v.1 x xn y yn 0).symm (Nat.zero_le _) (by omega) _ _ _ hP hD hS (lv_sub hl [0, 1, 2, 3, 4] rfl)

theorem iX10_inVan_X10 : ∀ w ∈ wsX100, w ∈ wsX10_inVan := by decide +kernel
def f_X10_inVan_4_x (s : (Nat → Int32)) (q4 : Int32) : Int32 := if (s 50) = (-10000005) then if (s 52) = (-10000005) then ((q4 + 1) + 1) else ((q4 + 1) + 0) else if (s 52) = (-10000005) then ((q4 + 0) + 1) else ((q4 + 0) + 0)
def st_X10_inVan_4 (s : (Nat → Int32)) (k4 : Nat) (q4 : Int32) : Int32 := if (s (5 * k4 + 0)) = (-10000005) then (q4 + 1) else (q4 + 0)
def lp_X10_inVan_4 (s : (Nat → Int32)) (i0 : Int32) : Nat → Int32
  | 0 => i0
  | k + 1 => st_X10_inVan_4 s k (lp_X10_inVan_4 s i0 k)
theorem lp_X10_inVan_4_0 (s : (Nat → Int32)) (i0 : Int32) : lp_X10_inVan_4 s i0 0 = i0 := rfl
theorem lp_X10_inVan_4_s (s : (Nat → Int32)) (i0 : Int32) (k : Nat) : lp_X10_inVan_4 s i0 (k + 1) = st_X10_inVan_4 s k (lp_X10_inVan_4 s i0 k) := rfl
def f_X10_inVan (s : (Nat → Int32)) : Int32 := f_X10_inVan_4_x s (lp_X10_inVan_4 s 0 10)
set_option maxRecDepth 100000 in
set_option maxHeartbeats 1000000 in
theorem c_X10_inVan (l : Launch) (D : va_G) (z : ClassId × ClassId × ClassId) (h h1 h2 h3 h4 h5 : Nat) (v : MV) (sz : Nat) : CI l yX10_inVan wsX10_inVan 1 21 0 0 [.ref h] D z (wX10 z h h1 h2 h3 h4 h5 v) sz (E0) (fun (zr : Int32) (_ : Unit) => zr = f_X10_inVan v.1) (fun _ => wX10 z h h1 h2 h3 h4 h5 v) := by
  refine met_i cX10_inVan 3 (some .int) (by decide) rfl (Nat.le_of_ble_eq_true rfl) ?_
  intro p e s m args below meth c R Q hx hb hr hml hts hown hlocks hin hRf hRl hRc hRs hc0 hs0 A H hA hP hK hD hS hE hQ ls hl
  have hl : lv_has ls 3 [(0, .ref h)] := hl
  have hP : va_P D vwCl [(h, .inr (10, [.ref h1, .ref h2, .ref h3, .int v.2.2.2.1, .ref h4, .int v.2.2.2.2.2.1, .ref h5, .int v.2.2.2.2.2.2.2.1, .int v.2.2.2.2.2.2.2.2.1, .int v.2.2.2.2.2.2.2.2.2.1, .int v.2.2.2.2.2.2.2.2.2.2.1, .int v.2.2.2.2.2.2.2.2.2.2.2.1, .int v.2.2.2.2.2.2.2.2.2.2.2.2.1, .int v.2.2.2.2.2.2.2.2.2.2.2.2.2.1, .int v.2.2.2.2.2.2.2.2.2.2.2.2.2.2.1, .int v.2.2.2.2.2.2.2.2.2.2.2.2.2.2.2])), (h1, .inl (z.1, 108, .inl v.1)), (h2, .inl (z.1, 108, .inl v.2.1)), (h3, .inl (z.1, 432, .inl v.2.2.1)), (h4, .inl (z.1, 108, .inl v.2.2.2.2.1)), (h5, .inl (z.1, 80, .inl v.2.2.2.2.2.2.1))] H := hP
  have hD : va_D A [(h, .inr (10, [.ref h1, .ref h2, .ref h3, .int v.2.2.2.1, .ref h4, .int v.2.2.2.2.2.1, .ref h5, .int v.2.2.2.2.2.2.2.1, .int v.2.2.2.2.2.2.2.2.1, .int v.2.2.2.2.2.2.2.2.2.1, .int v.2.2.2.2.2.2.2.2.2.2.1, .int v.2.2.2.2.2.2.2.2.2.2.2.1, .int v.2.2.2.2.2.2.2.2.2.2.2.2.1, .int v.2.2.2.2.2.2.2.2.2.2.2.2.2.1, .int v.2.2.2.2.2.2.2.2.2.2.2.2.2.2.1, .int v.2.2.2.2.2.2.2.2.2.2.2.2.2.2.2])), (h1, .inl (z.1, 108, .inl v.1)), (h2, .inl (z.1, 108, .inl v.2.1)), (h3, .inl (z.1, 432, .inl v.2.2.1)), (h4, .inl (z.1, 108, .inl v.2.2.2.2.1)), (h5, .inl (z.1, 80, .inl v.2.2.2.2.2.2.1))] := hD
  have hown : s.vm.findClass RX10 = some m.cls := hown
  refine lv_iconst (v := 0) hx hb dX10_inVan_0 (by decide) ?_
  refine lv_istore_n (lv' := [(1, .int 0), (0, .ref h)]) hx hb dX10_inVan_1 rfl hl (by decide) rfl (fun ls hl => ?_)
  refine lv_iconst (v := 0) hx hb dX10_inVan_2 (by decide) ?_
  refine lv_istore_n (lv' := [(2, .int 0), (1, .int 0), (0, .ref h)]) hx hb dX10_inVan_3 rfl hl (by decide) rfl (fun ls hl => ?_)
  have L4 : ∀ (n4 k4 : Nat) (q4 : Int32), q4 = lp_X10_inVan_4 v.1 0 k4 → k4 ≤ 10 → 10 + 1 ≤ k4 + n4 → ∀ (H : Heap) (locs : List Loc) (ls : Array Slot), va_P D vwCl [(h, .inr (10, [.ref h1, .ref h2, .ref h3, .int v.2.2.2.1, .ref h4, .int v.2.2.2.2.2.1, .ref h5, .int v.2.2.2.2.2.2.2.1, .int v.2.2.2.2.2.2.2.2.1, .int v.2.2.2.2.2.2.2.2.2.1, .int v.2.2.2.2.2.2.2.2.2.2.1, .int v.2.2.2.2.2.2.2.2.2.2.2.1, .int v.2.2.2.2.2.2.2.2.2.2.2.2.1, .int v.2.2.2.2.2.2.2.2.2.2.2.2.2.1, .int v.2.2.2.2.2.2.2.2.2.2.2.2.2.2.1, .int v.2.2.2.2.2.2.2.2.2.2.2.2.2.2.2])), (h1, .inl (z.1, 108, .inl v.1)), (h2, .inl (z.1, 108, .inl v.2.1)), (h3, .inl (z.1, 432, .inl v.2.2.1)), (h4, .inl (z.1, 108, .inl v.2.2.2.2.1)), (h5, .inl (z.1, 80, .inl v.2.2.2.2.2.2.1))] H → va_D A [(h, .inr (10, [.ref h1, .ref h2, .ref h3, .int v.2.2.2.1, .ref h4, .int v.2.2.2.2.2.1, .ref h5, .int v.2.2.2.2.2.2.2.1, .int v.2.2.2.2.2.2.2.2.1, .int v.2.2.2.2.2.2.2.2.2.1, .int v.2.2.2.2.2.2.2.2.2.2.1, .int v.2.2.2.2.2.2.2.2.2.2.2.1, .int v.2.2.2.2.2.2.2.2.2.2.2.2.1, .int v.2.2.2.2.2.2.2.2.2.2.2.2.2.1, .int v.2.2.2.2.2.2.2.2.2.2.2.2.2.2.1, .int v.2.2.2.2.2.2.2.2.2.2.2.2.2.2.2])), (h1, .inl (z.1, 108, .inl v.1)), (h2, .inl (z.1, 108, .inl v.2.1)), (h3, .inl (z.1, 432, .inl v.2.2.1)), (h4, .inl (z.1, 108, .inl v.2.2.2.2.1)), (h5, .inl (z.1, 80, .inl v.2.2.2.2.2.2.1))] → va_S A s.heap H locs → lv_has ls 3 [(2, .int (nI k4)), (1, .int q4), (0, .ref h)] → W p l e R s m args below meth c H locs 0 0 Q (F0 m 4 ls []) := by
    intro n4
    induction n4 with
    | zero => intro k4 q4 hq4 h1 h2; exact absurd h2 (by omega)
    | succ n4 ih4 =>
      intro k4 q4 hq4 hk4 hn4 H locs ls hP hD hS hl
      refine lv_iload_n hx hb dX10_inVan_4 rfl (lv_at hl 0 rfl) ?_
      refine lv_bipush (v := 10) hx hb dX10_inVan_5 (by decide) ?_
      rcases Nat.lt_or_ge k4 10 with hlt | hge
      · refine lv_icmp_ge (tgt := 39) hx hb dX10_inVan_7 (by decide) (fun c_2 => absurd c_2 (nI_ge (a := k4) (b := 10) (by omega) (by omega))) (fun c_2 => ?_)
        refine lv_iload_n hx hb dX10_inVan_10 rfl (lv_at hl 1 rfl) ?_
        refine lv_aload_n hx hb dX10_inVan_11 rfl (lv_at hl 2 rfl) ?_
        refine va_get (D := D) (ci := 10) (v := .ref h1) (C := RX10) (T := TX10) (N := 16) hx hb hts iX10_inVan_X10 hown hK hP 0 rfl rfl 0 (by decide) (hts (.fieldLink RX10 7 "BarnPicturesModel" "s" "[I") (by decide +kernel)) (fun _ h9 => h9) rfl dX10_inVan_12 ?_
        refine lv_iload_n hx hb dX10_inVan_15 rfl (lv_at hl 0 rfl) ?_
        refine lv_iconst (v := 0) hx hb dX10_inVan_16 (by decide) ?_
        refine call_i [(h, .inr (10, [.ref h1, .ref h2, .ref h3, .int v.2.2.2.1, .ref h4, .int v.2.2.2.2.2.1, .ref h5, .int v.2.2.2.2.2.2.2.1, .int v.2.2.2.2.2.2.2.2.1, .int v.2.2.2.2.2.2.2.2.2.1, .int v.2.2.2.2.2.2.2.2.2.2.1, .int v.2.2.2.2.2.2.2.2.2.2.2.1, .int v.2.2.2.2.2.2.2.2.2.2.2.2.1, .int v.2.2.2.2.2.2.2.2.2.2.2.2.2.1, .int v.2.2.2.2.2.2.2.2.2.2.2.2.2.2.1, .int v.2.2.2.2.2.2.2.2.2.2.2.2.2.2.2])), (h1, .inl (z.1, 108, .inl v.1)), (h2, .inl (z.1, 108, .inl v.2.1)), (h3, .inl (z.1, 432, .inl v.2.2.1)), (h4, .inl (z.1, 108, .inl v.2.2.2.2.1)), (h5, .inl (z.1, 80, .inl v.2.2.2.2.2.2.1))] (fun _ => [(h, .inr (10, [.ref h1, .ref h2, .ref h3, .int v.2.2.2.1, .ref h4, .int v.2.2.2.2.2.1, .ref h5, .int v.2.2.2.2.2.2.2.1, .int v.2.2.2.2.2.2.2.2.1, .int v.2.2.2.2.2.2.2.2.2.1, .int v.2.2.2.2.2.2.2.2.2.2.1, .int v.2.2.2.2.2.2.2.2.2.2.2.1, .int v.2.2.2.2.2.2.2.2.2.2.2.2.1, .int v.2.2.2.2.2.2.2.2.2.2.2.2.2.1, .int v.2.2.2.2.2.2.2.2.2.2.2.2.2.2.1, .int v.2.2.2.2.2.2.2.2.2.2.2.2.2.2.2])), (h1, .inl (z.1, 108, .inl v.1)), (h2, .inl (z.1, 108, .inl v.2.1)), (h3, .inl (z.1, 432, .inl v.2.2.1)), (h4, .inl (z.1, 108, .inl v.2.2.2.2.1)), (h5, .inl (z.1, 80, .inl v.2.2.2.2.2.2.1))]) (rS (As := [.int (nI k4), .int 0]) (rest := [.ref h1, .int q4]) ⟨hx, hb, hml, hown, hts⟩ (c_X10_of l D z (nI k4) 0 H.size) (va_cwS 2 hts gX10_inVan_X10_of rfl rfl rfl (by decide +kernel) ⟨Nat.le_trans (by decide) hRf, Nat.le_trans (by decide) hRl⟩) e0_ok e_0 hK hP hD [] (by decide) rfl rfl hl.1 rfl (Nat.le_of_ble_eq_true rfl) dX10_inVan_17 ⟨Nat.zero_le _, Nat.zero_le _⟩) hK hP hD hS hA [] [0, 1, 2, 3, 4, 5] [0, 1, 2, 3, 4, 5] rfl rfl (by decide) (by decide) (by decide) (fun _ => rfl) (fun zr zu H locs hw hP hD hS => ?_)
        subst hw
        have hP : va_P D vwCl [(h, .inr (10, [.ref h1, .ref h2, .ref h3, .int v.2.2.2.1, .ref h4, .int v.2.2.2.2.2.1, .ref h5, .int v.2.2.2.2.2.2.2.1, .int v.2.2.2.2.2.2.2.2.1, .int v.2.2.2.2.2.2.2.2.2.1, .int v.2.2.2.2.2.2.2.2.2.2.1, .int v.2.2.2.2.2.2.2.2.2.2.2.1, .int v.2.2.2.2.2.2.2.2.2.2.2.2.1, .int v.2.2.2.2.2.2.2.2.2.2.2.2.2.1, .int v.2.2.2.2.2.2.2.2.2.2.2.2.2.2.1, .int v.2.2.2.2.2.2.2.2.2.2.2.2.2.2.2])), (h1, .inl (z.1, 108, .inl v.1)), (h2, .inl (z.1, 108, .inl v.2.1)), (h3, .inl (z.1, 432, .inl v.2.2.1)), (h4, .inl (z.1, 108, .inl v.2.2.2.2.1)), (h5, .inl (z.1, 80, .inl v.2.2.2.2.2.2.1))] H := hP
        have hD : va_D A [(h, .inr (10, [.ref h1, .ref h2, .ref h3, .int v.2.2.2.1, .ref h4, .int v.2.2.2.2.2.1, .ref h5, .int v.2.2.2.2.2.2.2.1, .int v.2.2.2.2.2.2.2.2.1, .int v.2.2.2.2.2.2.2.2.2.1, .int v.2.2.2.2.2.2.2.2.2.2.1, .int v.2.2.2.2.2.2.2.2.2.2.2.1, .int v.2.2.2.2.2.2.2.2.2.2.2.2.1, .int v.2.2.2.2.2.2.2.2.2.2.2.2.2.1, .int v.2.2.2.2.2.2.2.2.2.2.2.2.2.2.1, .int v.2.2.2.2.2.2.2.2.2.2.2.2.2.2.2])), (h1, .inl (z.1, 108, .inl v.1)), (h2, .inl (z.1, 108, .inl v.2.1)), (h3, .inl (z.1, 432, .inl v.2.2.1)), (h4, .inl (z.1, 108, .inl v.2.2.2.2.1)), (h5, .inl (z.1, 80, .inl v.2.2.2.2.2.2.1))] := hD
        refine iald_k hx hb hK hP 1 rfl (5 * k4 + 0) (ix_of (of_n (nrf k4) (nlit 0)) (by omega) (by decide)) dX10_inVan_20 ?_
        refine lv_ldc (v := (-10000005)) hx hb hown (hts (.constant RX10 25 (-10000005)) (by decide +kernel)) dX10_inVan_21 ?_
        refine lv_icmp_ne (tgt := 30) hx hb dX10_inVan_23 (by decide) (fun c_3 => ?_) (fun c_3 => ?_)
        · refine lv_iconst (v := 0) hx hb dX10_inVan_30 (by decide) ?_
          refine lv_iadd hx hb dX10_inVan_31 ?_
          refine lv_istore_n (lv' := [(1, .int (q4 + 0)), (2, .int (nI k4)), (0, .ref h)]) hx hb dX10_inVan_32 rfl hl (by decide) rfl (fun ls hl => ?_)
          refine lv_iinc (v := nI (k4 + 1)) (lv' := [(2, .int (nI (k4 + 1))), (1, .int (q4 + 0)), (0, .ref h)]) hx hb dX10_inVan_33 hl (k := 1) rfl (nI_add k4 1) (by decide) rfl (fun ls hl => ?_)
          refine lv_goto (tgt := 4) hx hb dX10_inVan_36 (by decide) ?_
          exact ih4 (k4 + 1) (q4 + 0) (by rw [lp_X10_inVan_4_s, ← hq4]; unfold st_X10_inVan_4; rw [if_neg c_3]; try rfl) (by omega) (by omega) _ _ _ hP hD hS (lv_sub hl [0, 1, 2] rfl)
        · refine lv_iconst (v := 1) hx hb dX10_inVan_26 (by decide) ?_
          refine lv_goto (tgt := 31) hx hb dX10_inVan_27 (by decide) ?_
          refine lv_iadd hx hb dX10_inVan_31 ?_
          refine lv_istore_n (lv' := [(1, .int (q4 + 1)), (2, .int (nI k4)), (0, .ref h)]) hx hb dX10_inVan_32 rfl hl (by decide) rfl (fun ls hl => ?_)
          refine lv_iinc (v := nI (k4 + 1)) (lv' := [(2, .int (nI (k4 + 1))), (1, .int (q4 + 1)), (0, .ref h)]) hx hb dX10_inVan_33 hl (k := 1) rfl (nI_add k4 1) (by decide) rfl (fun ls hl => ?_)
          refine lv_goto (tgt := 4) hx hb dX10_inVan_36 (by decide) ?_
          exact ih4 (k4 + 1) (q4 + 1) (by rw [lp_X10_inVan_4_s, ← hq4]; unfold st_X10_inVan_4; rw [if_pos c_3]; try rfl) (by omega) (by omega) _ _ _ hP hD hS (lv_sub hl [0, 1, 2] rfl)
      · obtain rfl : 10 = k4 := by omega
        refine lv_icmp_ge (tgt := 39) hx hb dX10_inVan_7 (by decide) (fun c_2 => ?_) (fun c_2 => absurd (nI_le (a := 10) (b := 10) (by omega) (by omega)) c_2)
        have hP : va_P D vwCl [(h, .inr (10, [.ref h1, .ref h2, .ref h3, .int v.2.2.2.1, .ref h4, .int v.2.2.2.2.2.1, .ref h5, .int v.2.2.2.2.2.2.2.1, .int v.2.2.2.2.2.2.2.2.1, .int v.2.2.2.2.2.2.2.2.2.1, .int v.2.2.2.2.2.2.2.2.2.2.1, .int v.2.2.2.2.2.2.2.2.2.2.2.1, .int v.2.2.2.2.2.2.2.2.2.2.2.2.1, .int v.2.2.2.2.2.2.2.2.2.2.2.2.2.1, .int v.2.2.2.2.2.2.2.2.2.2.2.2.2.2.1, .int v.2.2.2.2.2.2.2.2.2.2.2.2.2.2.2])), (h1, .inl (z.1, 108, .inl v.1)), (h2, .inl (z.1, 108, .inl v.2.1)), (h3, .inl (z.1, 432, .inl v.2.2.1)), (h4, .inl (z.1, 108, .inl v.2.2.2.2.1)), (h5, .inl (z.1, 80, .inl v.2.2.2.2.2.2.1))] H := hP
        have hD : va_D A [(h, .inr (10, [.ref h1, .ref h2, .ref h3, .int v.2.2.2.1, .ref h4, .int v.2.2.2.2.2.1, .ref h5, .int v.2.2.2.2.2.2.2.1, .int v.2.2.2.2.2.2.2.2.1, .int v.2.2.2.2.2.2.2.2.2.1, .int v.2.2.2.2.2.2.2.2.2.2.1, .int v.2.2.2.2.2.2.2.2.2.2.2.1, .int v.2.2.2.2.2.2.2.2.2.2.2.2.1, .int v.2.2.2.2.2.2.2.2.2.2.2.2.2.1, .int v.2.2.2.2.2.2.2.2.2.2.2.2.2.2.1, .int v.2.2.2.2.2.2.2.2.2.2.2.2.2.2.2])), (h1, .inl (z.1, 108, .inl v.1)), (h2, .inl (z.1, 108, .inl v.2.1)), (h3, .inl (z.1, 432, .inl v.2.2.1)), (h4, .inl (z.1, 108, .inl v.2.2.2.2.1)), (h5, .inl (z.1, 80, .inl v.2.2.2.2.2.2.1))] := hD
        refine lv_iload_n hx hb dX10_inVan_39 rfl (lv_at hl 1 rfl) ?_
        refine lv_aload_n hx hb dX10_inVan_40 rfl (lv_at hl 2 rfl) ?_
        refine va_get (D := D) (ci := 10) (v := .ref h1) (C := RX10) (T := TX10) (N := 16) hx hb hts iX10_inVan_X10 hown hK hP 0 rfl rfl 0 (by decide) (hts (.fieldLink RX10 7 "BarnPicturesModel" "s" "[I") (by decide +kernel)) (fun _ h9 => h9) rfl dX10_inVan_41 ?_
        refine lv_bipush (v := 50) hx hb dX10_inVan_44 (by decide) ?_
        refine iald_k hx hb hK hP 1 rfl 50 (ix_of (nlit 50) (by omega) (by decide)) dX10_inVan_46 ?_
        refine lv_ldc (v := (-10000005)) hx hb hown (hts (.constant RX10 25 (-10000005)) (by decide +kernel)) dX10_inVan_47 ?_
        refine lv_icmp_ne (tgt := 56) hx hb dX10_inVan_49 (by decide) (fun c_4 => ?_) (fun c_4 => ?_)
        · refine lv_iconst (v := 0) hx hb dX10_inVan_56 (by decide) ?_
          refine lv_iadd hx hb dX10_inVan_57 ?_
          refine lv_aload_n hx hb dX10_inVan_58 rfl (lv_at hl 2 rfl) ?_
          refine va_get (D := D) (ci := 10) (v := .ref h1) (C := RX10) (T := TX10) (N := 16) hx hb hts iX10_inVan_X10 hown hK hP 0 rfl rfl 0 (by decide) (hts (.fieldLink RX10 7 "BarnPicturesModel" "s" "[I") (by decide +kernel)) (fun _ h9 => h9) rfl dX10_inVan_59 ?_
          refine lv_bipush (v := 52) hx hb dX10_inVan_62 (by decide) ?_
          refine iald_k hx hb hK hP 1 rfl 52 (ix_of (nlit 52) (by omega) (by decide)) dX10_inVan_64 ?_
          refine lv_ldc (v := (-10000005)) hx hb hown (hts (.constant RX10 25 (-10000005)) (by decide +kernel)) dX10_inVan_65 ?_
          refine lv_icmp_ne (tgt := 74) hx hb dX10_inVan_67 (by decide) (fun c_5 => ?_) (fun c_5 => ?_)
          · refine lv_iconst (v := 0) hx hb dX10_inVan_74 (by decide) ?_
            refine lv_iadd hx hb dX10_inVan_75 ?_
            subst hQ
            exact ret_i () hx hb hr hK hP hD hS rfl (by unfold f_X10_inVan; rw [← hq4]; unfold f_X10_inVan_4_x; rw [if_neg c_4, if_neg c_5]; try rfl) dX10_inVan_76 hlocks
          · refine lv_iconst (v := 1) hx hb dX10_inVan_70 (by decide) ?_
            refine lv_goto (tgt := 75) hx hb dX10_inVan_71 (by decide) ?_
            refine lv_iadd hx hb dX10_inVan_75 ?_
            subst hQ
            exact ret_i () hx hb hr hK hP hD hS rfl (by unfold f_X10_inVan; rw [← hq4]; unfold f_X10_inVan_4_x; rw [if_neg c_4, if_pos c_5]; try rfl) dX10_inVan_76 hlocks
        · refine lv_iconst (v := 1) hx hb dX10_inVan_52 (by decide) ?_
          refine lv_goto (tgt := 57) hx hb dX10_inVan_53 (by decide) ?_
          refine lv_iadd hx hb dX10_inVan_57 ?_
          refine lv_aload_n hx hb dX10_inVan_58 rfl (lv_at hl 2 rfl) ?_
          refine va_get (D := D) (ci := 10) (v := .ref h1) (C := RX10) (T := TX10) (N := 16) hx hb hts iX10_inVan_X10 hown hK hP 0 rfl rfl 0 (by decide) (hts (.fieldLink RX10 7 "BarnPicturesModel" "s" "[I") (by decide +kernel)) (fun _ h9 => h9) rfl dX10_inVan_59 ?_
          refine lv_bipush (v := 52) hx hb dX10_inVan_62 (by decide) ?_
          refine iald_k hx hb hK hP 1 rfl 52 (ix_of (nlit 52) (by omega) (by decide)) dX10_inVan_64 ?_
          refine lv_ldc (v := (-10000005)) hx hb hown (hts (.constant RX10 25 (-10000005)) (by decide +kernel)) dX10_inVan_65 ?_
          refine lv_icmp_ne (tgt := 74) hx hb dX10_inVan_67 (by decide) (fun c_6 => ?_) (fun c_6 => ?_)
          · refine lv_iconst (v := 0) hx hb dX10_inVan_74 (by decide) ?_
            refine lv_iadd hx hb dX10_inVan_75 ?_
            subst hQ
            exact ret_i () hx hb hr hK hP hD hS rfl (by unfold f_X10_inVan; rw [← hq4]; unfold f_X10_inVan_4_x; rw [if_pos c_4, if_neg c_6]; try rfl) dX10_inVan_76 hlocks
          · refine lv_iconst (v := 1) hx hb dX10_inVan_70 (by decide) ?_
            refine lv_goto (tgt := 75) hx hb dX10_inVan_71 (by decide) ?_
            refine lv_iadd hx hb dX10_inVan_75 ?_
            subst hQ
            exact ret_i () hx hb hr hK hP hD hS rfl (by unfold f_X10_inVan; rw [← hq4]; unfold f_X10_inVan_4_x; rw [if_pos c_4, if_pos c_6]; try rfl) dX10_inVan_76 hlocks
  exact L4 (10 + 1) 0 0 (lp_X10_inVan_4_0 v.1 0).symm (Nat.zero_le _) (by omega) _ _ _ hP hD hS (lv_sub hl [0, 1, 2] rfl)

theorem iX10_gone_X10 : ∀ w ∈ wsX100, w ∈ wsX10_gone := by decide +kernel
def f_X10_gone_4_x (s : (Nat → Int32)) (q4 : Int32) : Int32 := q4
def st_X10_gone_4 (s : (Nat → Int32)) (k4 : Nat) (q4 : Int32) : Int32 := if (s (5 * k4 + 0)) = (-2) then (q4 + 1) else (q4 + 0)
def lp_X10_gone_4 (s : (Nat → Int32)) (i0 : Int32) : Nat → Int32
  | 0 => i0
  | k + 1 => st_X10_gone_4 s k (lp_X10_gone_4 s i0 k)
theorem lp_X10_gone_4_0 (s : (Nat → Int32)) (i0 : Int32) : lp_X10_gone_4 s i0 0 = i0 := rfl
theorem lp_X10_gone_4_s (s : (Nat → Int32)) (i0 : Int32) (k : Nat) : lp_X10_gone_4 s i0 (k + 1) = st_X10_gone_4 s k (lp_X10_gone_4 s i0 k) := rfl
def f_X10_gone (s : (Nat → Int32)) : Int32 := f_X10_gone_4_x s (lp_X10_gone_4 s 0 10)
set_option maxRecDepth 100000 in
set_option maxHeartbeats 1000000 in
theorem c_X10_gone (l : Launch) (D : va_G) (z : ClassId × ClassId × ClassId) (h h1 h2 h3 h4 h5 : Nat) (v : MV) (sz : Nat) : CI l yX10_gone wsX10_gone 1 21 0 0 [.ref h] D z (wX10 z h h1 h2 h3 h4 h5 v) sz (E0) (fun (zr : Int32) (_ : Unit) => zr = f_X10_gone v.1) (fun _ => wX10 z h h1 h2 h3 h4 h5 v) := by
  refine met_i cX10_gone 3 (some .int) (by decide) rfl (Nat.le_of_ble_eq_true rfl) ?_
  intro p e s m args below meth c R Q hx hb hr hml hts hown hlocks hin hRf hRl hRc hRs hc0 hs0 A H hA hP hK hD hS hE hQ ls hl
  have hl : lv_has ls 3 [(0, .ref h)] := hl
  have hP : va_P D vwCl [(h, .inr (10, [.ref h1, .ref h2, .ref h3, .int v.2.2.2.1, .ref h4, .int v.2.2.2.2.2.1, .ref h5, .int v.2.2.2.2.2.2.2.1, .int v.2.2.2.2.2.2.2.2.1, .int v.2.2.2.2.2.2.2.2.2.1, .int v.2.2.2.2.2.2.2.2.2.2.1, .int v.2.2.2.2.2.2.2.2.2.2.2.1, .int v.2.2.2.2.2.2.2.2.2.2.2.2.1, .int v.2.2.2.2.2.2.2.2.2.2.2.2.2.1, .int v.2.2.2.2.2.2.2.2.2.2.2.2.2.2.1, .int v.2.2.2.2.2.2.2.2.2.2.2.2.2.2.2])), (h1, .inl (z.1, 108, .inl v.1)), (h2, .inl (z.1, 108, .inl v.2.1)), (h3, .inl (z.1, 432, .inl v.2.2.1)), (h4, .inl (z.1, 108, .inl v.2.2.2.2.1)), (h5, .inl (z.1, 80, .inl v.2.2.2.2.2.2.1))] H := hP
  have hD : va_D A [(h, .inr (10, [.ref h1, .ref h2, .ref h3, .int v.2.2.2.1, .ref h4, .int v.2.2.2.2.2.1, .ref h5, .int v.2.2.2.2.2.2.2.1, .int v.2.2.2.2.2.2.2.2.1, .int v.2.2.2.2.2.2.2.2.2.1, .int v.2.2.2.2.2.2.2.2.2.2.1, .int v.2.2.2.2.2.2.2.2.2.2.2.1, .int v.2.2.2.2.2.2.2.2.2.2.2.2.1, .int v.2.2.2.2.2.2.2.2.2.2.2.2.2.1, .int v.2.2.2.2.2.2.2.2.2.2.2.2.2.2.1, .int v.2.2.2.2.2.2.2.2.2.2.2.2.2.2.2])), (h1, .inl (z.1, 108, .inl v.1)), (h2, .inl (z.1, 108, .inl v.2.1)), (h3, .inl (z.1, 432, .inl v.2.2.1)), (h4, .inl (z.1, 108, .inl v.2.2.2.2.1)), (h5, .inl (z.1, 80, .inl v.2.2.2.2.2.2.1))] := hD
  have hown : s.vm.findClass RX10 = some m.cls := hown
  refine lv_iconst (v := 0) hx hb dX10_gone_0 (by decide) ?_
  refine lv_istore_n (lv' := [(1, .int 0), (0, .ref h)]) hx hb dX10_gone_1 rfl hl (by decide) rfl (fun ls hl => ?_)
  refine lv_iconst (v := 0) hx hb dX10_gone_2 (by decide) ?_
  refine lv_istore_n (lv' := [(2, .int 0), (1, .int 0), (0, .ref h)]) hx hb dX10_gone_3 rfl hl (by decide) rfl (fun ls hl => ?_)
  have L4 : ∀ (n4 k4 : Nat) (q4 : Int32), q4 = lp_X10_gone_4 v.1 0 k4 → k4 ≤ 10 → 10 + 1 ≤ k4 + n4 → ∀ (H : Heap) (locs : List Loc) (ls : Array Slot), va_P D vwCl [(h, .inr (10, [.ref h1, .ref h2, .ref h3, .int v.2.2.2.1, .ref h4, .int v.2.2.2.2.2.1, .ref h5, .int v.2.2.2.2.2.2.2.1, .int v.2.2.2.2.2.2.2.2.1, .int v.2.2.2.2.2.2.2.2.2.1, .int v.2.2.2.2.2.2.2.2.2.2.1, .int v.2.2.2.2.2.2.2.2.2.2.2.1, .int v.2.2.2.2.2.2.2.2.2.2.2.2.1, .int v.2.2.2.2.2.2.2.2.2.2.2.2.2.1, .int v.2.2.2.2.2.2.2.2.2.2.2.2.2.2.1, .int v.2.2.2.2.2.2.2.2.2.2.2.2.2.2.2])), (h1, .inl (z.1, 108, .inl v.1)), (h2, .inl (z.1, 108, .inl v.2.1)), (h3, .inl (z.1, 432, .inl v.2.2.1)), (h4, .inl (z.1, 108, .inl v.2.2.2.2.1)), (h5, .inl (z.1, 80, .inl v.2.2.2.2.2.2.1))] H → va_D A [(h, .inr (10, [.ref h1, .ref h2, .ref h3, .int v.2.2.2.1, .ref h4, .int v.2.2.2.2.2.1, .ref h5, .int v.2.2.2.2.2.2.2.1, .int v.2.2.2.2.2.2.2.2.1, .int v.2.2.2.2.2.2.2.2.2.1, .int v.2.2.2.2.2.2.2.2.2.2.1, .int v.2.2.2.2.2.2.2.2.2.2.2.1, .int v.2.2.2.2.2.2.2.2.2.2.2.2.1, .int v.2.2.2.2.2.2.2.2.2.2.2.2.2.1, .int v.2.2.2.2.2.2.2.2.2.2.2.2.2.2.1, .int v.2.2.2.2.2.2.2.2.2.2.2.2.2.2.2])), (h1, .inl (z.1, 108, .inl v.1)), (h2, .inl (z.1, 108, .inl v.2.1)), (h3, .inl (z.1, 432, .inl v.2.2.1)), (h4, .inl (z.1, 108, .inl v.2.2.2.2.1)), (h5, .inl (z.1, 80, .inl v.2.2.2.2.2.2.1))] → va_S A s.heap H locs → lv_has ls 3 [(2, .int (nI k4)), (1, .int q4), (0, .ref h)] → W p l e R s m args below meth c H locs 0 0 Q (F0 m 4 ls []) := by
    intro n4
    induction n4 with
    | zero => intro k4 q4 hq4 h1 h2; exact absurd h2 (by omega)
    | succ n4 ih4 =>
      intro k4 q4 hq4 hk4 hn4 H locs ls hP hD hS hl
      refine lv_iload_n hx hb dX10_gone_4 rfl (lv_at hl 0 rfl) ?_
      refine lv_bipush (v := 10) hx hb dX10_gone_5 (by decide) ?_
      rcases Nat.lt_or_ge k4 10 with hlt | hge
      · refine lv_icmp_ge (tgt := 39) hx hb dX10_gone_7 (by decide) (fun c_2 => absurd c_2 (nI_ge (a := k4) (b := 10) (by omega) (by omega))) (fun c_2 => ?_)
        refine lv_iload_n hx hb dX10_gone_10 rfl (lv_at hl 1 rfl) ?_
        refine lv_aload_n hx hb dX10_gone_11 rfl (lv_at hl 2 rfl) ?_
        refine va_get (D := D) (ci := 10) (v := .ref h1) (C := RX10) (T := TX10) (N := 16) hx hb hts iX10_gone_X10 hown hK hP 0 rfl rfl 0 (by decide) (hts (.fieldLink RX10 7 "BarnPicturesModel" "s" "[I") (by decide +kernel)) (fun _ h9 => h9) rfl dX10_gone_12 ?_
        refine lv_iload_n hx hb dX10_gone_15 rfl (lv_at hl 0 rfl) ?_
        refine lv_iconst (v := 0) hx hb dX10_gone_16 (by decide) ?_
        refine call_i [(h, .inr (10, [.ref h1, .ref h2, .ref h3, .int v.2.2.2.1, .ref h4, .int v.2.2.2.2.2.1, .ref h5, .int v.2.2.2.2.2.2.2.1, .int v.2.2.2.2.2.2.2.2.1, .int v.2.2.2.2.2.2.2.2.2.1, .int v.2.2.2.2.2.2.2.2.2.2.1, .int v.2.2.2.2.2.2.2.2.2.2.2.1, .int v.2.2.2.2.2.2.2.2.2.2.2.2.1, .int v.2.2.2.2.2.2.2.2.2.2.2.2.2.1, .int v.2.2.2.2.2.2.2.2.2.2.2.2.2.2.1, .int v.2.2.2.2.2.2.2.2.2.2.2.2.2.2.2])), (h1, .inl (z.1, 108, .inl v.1)), (h2, .inl (z.1, 108, .inl v.2.1)), (h3, .inl (z.1, 432, .inl v.2.2.1)), (h4, .inl (z.1, 108, .inl v.2.2.2.2.1)), (h5, .inl (z.1, 80, .inl v.2.2.2.2.2.2.1))] (fun _ => [(h, .inr (10, [.ref h1, .ref h2, .ref h3, .int v.2.2.2.1, .ref h4, .int v.2.2.2.2.2.1, .ref h5, .int v.2.2.2.2.2.2.2.1, .int v.2.2.2.2.2.2.2.2.1, .int v.2.2.2.2.2.2.2.2.2.1, .int v.2.2.2.2.2.2.2.2.2.2.1, .int v.2.2.2.2.2.2.2.2.2.2.2.1, .int v.2.2.2.2.2.2.2.2.2.2.2.2.1, .int v.2.2.2.2.2.2.2.2.2.2.2.2.2.1, .int v.2.2.2.2.2.2.2.2.2.2.2.2.2.2.1, .int v.2.2.2.2.2.2.2.2.2.2.2.2.2.2.2])), (h1, .inl (z.1, 108, .inl v.1)), (h2, .inl (z.1, 108, .inl v.2.1)), (h3, .inl (z.1, 432, .inl v.2.2.1)), (h4, .inl (z.1, 108, .inl v.2.2.2.2.1)), (h5, .inl (z.1, 80, .inl v.2.2.2.2.2.2.1))]) (rS (As := [.int (nI k4), .int 0]) (rest := [.ref h1, .int q4]) ⟨hx, hb, hml, hown, hts⟩ (c_X10_of l D z (nI k4) 0 H.size) (va_cwS 2 hts gX10_gone_X10_of rfl rfl rfl (by decide +kernel) ⟨Nat.le_trans (by decide) hRf, Nat.le_trans (by decide) hRl⟩) e0_ok e_0 hK hP hD [] (by decide) rfl rfl hl.1 rfl (Nat.le_of_ble_eq_true rfl) dX10_gone_17 ⟨Nat.zero_le _, Nat.zero_le _⟩) hK hP hD hS hA [] [0, 1, 2, 3, 4, 5] [0, 1, 2, 3, 4, 5] rfl rfl (by decide) (by decide) (by decide) (fun _ => rfl) (fun zr zu H locs hw hP hD hS => ?_)
        subst hw
        have hP : va_P D vwCl [(h, .inr (10, [.ref h1, .ref h2, .ref h3, .int v.2.2.2.1, .ref h4, .int v.2.2.2.2.2.1, .ref h5, .int v.2.2.2.2.2.2.2.1, .int v.2.2.2.2.2.2.2.2.1, .int v.2.2.2.2.2.2.2.2.2.1, .int v.2.2.2.2.2.2.2.2.2.2.1, .int v.2.2.2.2.2.2.2.2.2.2.2.1, .int v.2.2.2.2.2.2.2.2.2.2.2.2.1, .int v.2.2.2.2.2.2.2.2.2.2.2.2.2.1, .int v.2.2.2.2.2.2.2.2.2.2.2.2.2.2.1, .int v.2.2.2.2.2.2.2.2.2.2.2.2.2.2.2])), (h1, .inl (z.1, 108, .inl v.1)), (h2, .inl (z.1, 108, .inl v.2.1)), (h3, .inl (z.1, 432, .inl v.2.2.1)), (h4, .inl (z.1, 108, .inl v.2.2.2.2.1)), (h5, .inl (z.1, 80, .inl v.2.2.2.2.2.2.1))] H := hP
        have hD : va_D A [(h, .inr (10, [.ref h1, .ref h2, .ref h3, .int v.2.2.2.1, .ref h4, .int v.2.2.2.2.2.1, .ref h5, .int v.2.2.2.2.2.2.2.1, .int v.2.2.2.2.2.2.2.2.1, .int v.2.2.2.2.2.2.2.2.2.1, .int v.2.2.2.2.2.2.2.2.2.2.1, .int v.2.2.2.2.2.2.2.2.2.2.2.1, .int v.2.2.2.2.2.2.2.2.2.2.2.2.1, .int v.2.2.2.2.2.2.2.2.2.2.2.2.2.1, .int v.2.2.2.2.2.2.2.2.2.2.2.2.2.2.1, .int v.2.2.2.2.2.2.2.2.2.2.2.2.2.2.2])), (h1, .inl (z.1, 108, .inl v.1)), (h2, .inl (z.1, 108, .inl v.2.1)), (h3, .inl (z.1, 432, .inl v.2.2.1)), (h4, .inl (z.1, 108, .inl v.2.2.2.2.1)), (h5, .inl (z.1, 80, .inl v.2.2.2.2.2.2.1))] := hD
        refine iald_k hx hb hK hP 1 rfl (5 * k4 + 0) (ix_of (of_n (nrf k4) (nlit 0)) (by omega) (by decide)) dX10_gone_20 ?_
        refine lv_bipush (v := (-2)) hx hb dX10_gone_21 (by decide) ?_
        refine lv_icmp_ne (tgt := 30) hx hb dX10_gone_23 (by decide) (fun c_3 => ?_) (fun c_3 => ?_)
        · refine lv_iconst (v := 0) hx hb dX10_gone_30 (by decide) ?_
          refine lv_iadd hx hb dX10_gone_31 ?_
          refine lv_istore_n (lv' := [(1, .int (q4 + 0)), (2, .int (nI k4)), (0, .ref h)]) hx hb dX10_gone_32 rfl hl (by decide) rfl (fun ls hl => ?_)
          refine lv_iinc (v := nI (k4 + 1)) (lv' := [(2, .int (nI (k4 + 1))), (1, .int (q4 + 0)), (0, .ref h)]) hx hb dX10_gone_33 hl (k := 1) rfl (nI_add k4 1) (by decide) rfl (fun ls hl => ?_)
          refine lv_goto (tgt := 4) hx hb dX10_gone_36 (by decide) ?_
          exact ih4 (k4 + 1) (q4 + 0) (by rw [lp_X10_gone_4_s, ← hq4]; unfold st_X10_gone_4; rw [if_neg c_3]; try rfl) (by omega) (by omega) _ _ _ hP hD hS (lv_sub hl [0, 1, 2] rfl)
        · refine lv_iconst (v := 1) hx hb dX10_gone_26 (by decide) ?_
          refine lv_goto (tgt := 31) hx hb dX10_gone_27 (by decide) ?_
          refine lv_iadd hx hb dX10_gone_31 ?_
          refine lv_istore_n (lv' := [(1, .int (q4 + 1)), (2, .int (nI k4)), (0, .ref h)]) hx hb dX10_gone_32 rfl hl (by decide) rfl (fun ls hl => ?_)
          refine lv_iinc (v := nI (k4 + 1)) (lv' := [(2, .int (nI (k4 + 1))), (1, .int (q4 + 1)), (0, .ref h)]) hx hb dX10_gone_33 hl (k := 1) rfl (nI_add k4 1) (by decide) rfl (fun ls hl => ?_)
          refine lv_goto (tgt := 4) hx hb dX10_gone_36 (by decide) ?_
          exact ih4 (k4 + 1) (q4 + 1) (by rw [lp_X10_gone_4_s, ← hq4]; unfold st_X10_gone_4; rw [if_pos c_3]; try rfl) (by omega) (by omega) _ _ _ hP hD hS (lv_sub hl [0, 1, 2] rfl)
      · obtain rfl : 10 = k4 := by omega
        refine lv_icmp_ge (tgt := 39) hx hb dX10_gone_7 (by decide) (fun c_2 => ?_) (fun c_2 => absurd (nI_le (a := 10) (b := 10) (by omega) (by omega)) c_2)
        have hP : va_P D vwCl [(h, .inr (10, [.ref h1, .ref h2, .ref h3, .int v.2.2.2.1, .ref h4, .int v.2.2.2.2.2.1, .ref h5, .int v.2.2.2.2.2.2.2.1, .int v.2.2.2.2.2.2.2.2.1, .int v.2.2.2.2.2.2.2.2.2.1, .int v.2.2.2.2.2.2.2.2.2.2.1, .int v.2.2.2.2.2.2.2.2.2.2.2.1, .int v.2.2.2.2.2.2.2.2.2.2.2.2.1, .int v.2.2.2.2.2.2.2.2.2.2.2.2.2.1, .int v.2.2.2.2.2.2.2.2.2.2.2.2.2.2.1, .int v.2.2.2.2.2.2.2.2.2.2.2.2.2.2.2])), (h1, .inl (z.1, 108, .inl v.1)), (h2, .inl (z.1, 108, .inl v.2.1)), (h3, .inl (z.1, 432, .inl v.2.2.1)), (h4, .inl (z.1, 108, .inl v.2.2.2.2.1)), (h5, .inl (z.1, 80, .inl v.2.2.2.2.2.2.1))] H := hP
        have hD : va_D A [(h, .inr (10, [.ref h1, .ref h2, .ref h3, .int v.2.2.2.1, .ref h4, .int v.2.2.2.2.2.1, .ref h5, .int v.2.2.2.2.2.2.2.1, .int v.2.2.2.2.2.2.2.2.1, .int v.2.2.2.2.2.2.2.2.2.1, .int v.2.2.2.2.2.2.2.2.2.2.1, .int v.2.2.2.2.2.2.2.2.2.2.2.1, .int v.2.2.2.2.2.2.2.2.2.2.2.2.1, .int v.2.2.2.2.2.2.2.2.2.2.2.2.2.1, .int v.2.2.2.2.2.2.2.2.2.2.2.2.2.2.1, .int v.2.2.2.2.2.2.2.2.2.2.2.2.2.2.2])), (h1, .inl (z.1, 108, .inl v.1)), (h2, .inl (z.1, 108, .inl v.2.1)), (h3, .inl (z.1, 432, .inl v.2.2.1)), (h4, .inl (z.1, 108, .inl v.2.2.2.2.1)), (h5, .inl (z.1, 80, .inl v.2.2.2.2.2.2.1))] := hD
        refine lv_iload_n hx hb dX10_gone_39 rfl (lv_at hl 1 rfl) ?_
        subst hQ
        exact ret_i () hx hb hr hK hP hD hS rfl (by unfold f_X10_gone; rw [← hq4]; unfold f_X10_gone_4_x; try rfl) dX10_gone_40 hlocks
  exact L4 (10 + 1) 0 0 (lp_X10_gone_4_0 v.1 0).symm (Nat.zero_le _) (by omega) _ _ _ hP hD hS (lv_sub hl [0, 1, 2] rfl)

theorem iX10_moveFault_X10 : ∀ w ∈ wsX100, w ∈ wsX10_moveFault := by decide +kernel
def f_X10_moveFault (s : (Nat → Int32)) (x : Int32) (xn : Nat) (y : Int32) : Int32 := if (s xn) = (-10000005) then if 1 = y then (-10000005) else if y = 0 then 0 else if (f_X10_inVan s) < 8 then 0 else (-10000003) else if (s xn) = (s 54) then if 0 = y then (-10000005) else if y = 0 then 0 else if (f_X10_inVan s) < 8 then 0 else (-10000003) else (-10000004)
set_option maxRecDepth 100000 in
set_option maxHeartbeats 1000000 in
theorem c_X10_moveFault (l : Launch) (D : va_G) (z : ClassId × ClassId × ClassId) (h h1 h2 h3 h4 h5 : Nat) (v : MV) (x : Int32) (xn : Nat) (ee_x : x = nI xn) (bb_x : xn < 108) (y : Int32) (sz : Nat) : CI l yX10_moveFault wsX10_moveFault 2 43 0 0 [.ref h, .int x, .int y] D z (wX10 z h h1 h2 h3 h4 h5 v) sz (E0) (fun (zr : Int32) (_ : Unit) => zr = f_X10_moveFault v.1 x xn y) (fun _ => wX10 z h h1 h2 h3 h4 h5 v) := by
  refine met_i cX10_moveFault 3 (some .int) (by decide) rfl (Nat.le_of_ble_eq_true rfl) ?_
  intro p e s m args below meth c R Q hx hb hr hml hts hown hlocks hin hRf hRl hRc hRs hc0 hs0 A H hA hP hK hD hS hE hQ ls hl
  have hl : lv_has ls 3 [(0, .ref h), (1, .int x), (2, .int y)] := hl
  have hP : va_P D vwCl [(h, .inr (10, [.ref h1, .ref h2, .ref h3, .int v.2.2.2.1, .ref h4, .int v.2.2.2.2.2.1, .ref h5, .int v.2.2.2.2.2.2.2.1, .int v.2.2.2.2.2.2.2.2.1, .int v.2.2.2.2.2.2.2.2.2.1, .int v.2.2.2.2.2.2.2.2.2.2.1, .int v.2.2.2.2.2.2.2.2.2.2.2.1, .int v.2.2.2.2.2.2.2.2.2.2.2.2.1, .int v.2.2.2.2.2.2.2.2.2.2.2.2.2.1, .int v.2.2.2.2.2.2.2.2.2.2.2.2.2.2.1, .int v.2.2.2.2.2.2.2.2.2.2.2.2.2.2.2])), (h1, .inl (z.1, 108, .inl v.1)), (h2, .inl (z.1, 108, .inl v.2.1)), (h3, .inl (z.1, 432, .inl v.2.2.1)), (h4, .inl (z.1, 108, .inl v.2.2.2.2.1)), (h5, .inl (z.1, 80, .inl v.2.2.2.2.2.2.1))] H := hP
  have hD : va_D A [(h, .inr (10, [.ref h1, .ref h2, .ref h3, .int v.2.2.2.1, .ref h4, .int v.2.2.2.2.2.1, .ref h5, .int v.2.2.2.2.2.2.2.1, .int v.2.2.2.2.2.2.2.2.1, .int v.2.2.2.2.2.2.2.2.2.1, .int v.2.2.2.2.2.2.2.2.2.2.1, .int v.2.2.2.2.2.2.2.2.2.2.2.1, .int v.2.2.2.2.2.2.2.2.2.2.2.2.1, .int v.2.2.2.2.2.2.2.2.2.2.2.2.2.1, .int v.2.2.2.2.2.2.2.2.2.2.2.2.2.2.1, .int v.2.2.2.2.2.2.2.2.2.2.2.2.2.2.2])), (h1, .inl (z.1, 108, .inl v.1)), (h2, .inl (z.1, 108, .inl v.2.1)), (h3, .inl (z.1, 432, .inl v.2.2.1)), (h4, .inl (z.1, 108, .inl v.2.2.2.2.1)), (h5, .inl (z.1, 80, .inl v.2.2.2.2.2.2.1))] := hD
  have hown : s.vm.findClass RX10 = some m.cls := hown
  refine lv_aload_n hx hb dX10_moveFault_0 rfl (lv_at hl 0 rfl) ?_
  refine va_get (D := D) (ci := 10) (v := .ref h1) (C := RX10) (T := TX10) (N := 16) hx hb hts iX10_moveFault_X10 hown hK hP 0 rfl rfl 0 (by decide) (hts (.fieldLink RX10 7 "BarnPicturesModel" "s" "[I") (by decide +kernel)) (fun _ h9 => h9) rfl dX10_moveFault_1 ?_
  refine lv_iload_n hx hb dX10_moveFault_4 rfl (lv_at hl 1 rfl) ?_
  refine iald_k hx hb hK hP 1 rfl xn (ix_of ee_x (by omega) (by decide)) dX10_moveFault_5 ?_
  refine lv_ldc (v := (-10000005)) hx hb hown (hts (.constant RX10 25 (-10000005)) (by decide +kernel)) dX10_moveFault_6 ?_
  refine lv_icmp_eq (tgt := 30) hx hb dX10_moveFault_8 (by decide) (fun c_1 => ?_) (fun c_1 => ?_)
  · refine lv_aload_n hx hb dX10_moveFault_30 rfl (lv_at hl 0 rfl) ?_
    refine va_get (D := D) (ci := 10) (v := .ref h1) (C := RX10) (T := TX10) (N := 16) hx hb hts iX10_moveFault_X10 hown hK hP 0 rfl rfl 0 (by decide) (hts (.fieldLink RX10 7 "BarnPicturesModel" "s" "[I") (by decide +kernel)) (fun _ h9 => h9) rfl dX10_moveFault_31 ?_
    refine lv_iload_n hx hb dX10_moveFault_34 rfl (lv_at hl 1 rfl) ?_
    refine iald_k hx hb hK hP 1 rfl xn (ix_of ee_x (by omega) (by decide)) dX10_moveFault_35 ?_
    refine lv_ldc (v := (-10000005)) hx hb hown (hts (.constant RX10 25 (-10000005)) (by decide +kernel)) dX10_moveFault_36 ?_
    refine lv_icmp_ne (tgt := 45) hx hb dX10_moveFault_38 (by decide) (fun c_2 => absurd c_1 c_2) (fun c_2 => ?_)
    refine lv_iconst (v := 1) hx hb dX10_moveFault_41 (by decide) ?_
    refine lv_goto (tgt := 46) hx hb dX10_moveFault_42 (by decide) ?_
    refine lv_iload_n hx hb dX10_moveFault_46 rfl (lv_at hl 2 rfl) ?_
    refine lv_icmp_ne (tgt := 55) hx hb dX10_moveFault_47 (by decide) (fun c_3 => ?_) (fun c_3 => ?_)
    · refine lv_iload_n hx hb dX10_moveFault_55 rfl (lv_at hl 2 rfl) ?_
      refine lv_if_eq (tgt := 73) hx hb dX10_moveFault_56 (by decide) (fun c_4 => ?_) (fun c_4 => ?_)
      · refine lv_iconst (v := 0) hx hb dX10_moveFault_73 (by decide) ?_
        subst hQ
        exact ret_i () hx hb hr hK hP hD hS rfl (by unfold f_X10_moveFault; rw [if_pos c_1, if_neg c_3, if_pos c_4]; try rfl) dX10_moveFault_74 hlocks
      · refine lv_aload_n hx hb dX10_moveFault_59 rfl (lv_at hl 0 rfl) ?_
        refine call_i [] (fun _ => [(h, .inr (10, [.ref h1, .ref h2, .ref h3, .int v.2.2.2.1, .ref h4, .int v.2.2.2.2.2.1, .ref h5, .int v.2.2.2.2.2.2.2.1, .int v.2.2.2.2.2.2.2.2.1, .int v.2.2.2.2.2.2.2.2.2.1, .int v.2.2.2.2.2.2.2.2.2.2.1, .int v.2.2.2.2.2.2.2.2.2.2.2.1, .int v.2.2.2.2.2.2.2.2.2.2.2.2.1, .int v.2.2.2.2.2.2.2.2.2.2.2.2.2.1, .int v.2.2.2.2.2.2.2.2.2.2.2.2.2.2.1, .int v.2.2.2.2.2.2.2.2.2.2.2.2.2.2.2])), (h1, .inl (z.1, 108, .inl v.1)), (h2, .inl (z.1, 108, .inl v.2.1)), (h3, .inl (z.1, 432, .inl v.2.2.1)), (h4, .inl (z.1, 108, .inl v.2.2.2.2.1)), (h5, .inl (z.1, 80, .inl v.2.2.2.2.2.2.1))]) (rV (As := []) (rest := []) ⟨hx, hb, hml, hown, hts⟩ (c_X10_inVan l D z h h1 h2 h3 h4 h5 v H.size) (cwV 0 hts gX10_moveFault_X10_inVan rfl rfl rfl (by decide +kernel) ⟨Nat.le_trans (by decide) hRf, Nat.le_trans (by decide) hRl⟩) e0_ok e_0 hK hP hD [0, 1, 2, 3, 4, 5] (by decide) rfl (va_recv hK hP (ci := 10) (q0 := 0) rfl rfl) rfl hl.1 rfl (Nat.le_of_ble_eq_true rfl) dX10_moveFault_60 ⟨Nat.zero_le _, Nat.zero_le _⟩) hK hP hD hS hA [0, 1, 2, 3, 4, 5] [] [0, 1, 2, 3, 4, 5] rfl rfl (by decide) (by decide) (by decide) (fun _ => rfl) (fun zr zu H locs hw hP hD hS => ?_)
        subst hw
        have hP : va_P D vwCl [(h, .inr (10, [.ref h1, .ref h2, .ref h3, .int v.2.2.2.1, .ref h4, .int v.2.2.2.2.2.1, .ref h5, .int v.2.2.2.2.2.2.2.1, .int v.2.2.2.2.2.2.2.2.1, .int v.2.2.2.2.2.2.2.2.2.1, .int v.2.2.2.2.2.2.2.2.2.2.1, .int v.2.2.2.2.2.2.2.2.2.2.2.1, .int v.2.2.2.2.2.2.2.2.2.2.2.2.1, .int v.2.2.2.2.2.2.2.2.2.2.2.2.2.1, .int v.2.2.2.2.2.2.2.2.2.2.2.2.2.2.1, .int v.2.2.2.2.2.2.2.2.2.2.2.2.2.2.2])), (h1, .inl (z.1, 108, .inl v.1)), (h2, .inl (z.1, 108, .inl v.2.1)), (h3, .inl (z.1, 432, .inl v.2.2.1)), (h4, .inl (z.1, 108, .inl v.2.2.2.2.1)), (h5, .inl (z.1, 80, .inl v.2.2.2.2.2.2.1))] H := hP
        have hD : va_D A [(h, .inr (10, [.ref h1, .ref h2, .ref h3, .int v.2.2.2.1, .ref h4, .int v.2.2.2.2.2.1, .ref h5, .int v.2.2.2.2.2.2.2.1, .int v.2.2.2.2.2.2.2.2.1, .int v.2.2.2.2.2.2.2.2.2.1, .int v.2.2.2.2.2.2.2.2.2.2.1, .int v.2.2.2.2.2.2.2.2.2.2.2.1, .int v.2.2.2.2.2.2.2.2.2.2.2.2.1, .int v.2.2.2.2.2.2.2.2.2.2.2.2.2.1, .int v.2.2.2.2.2.2.2.2.2.2.2.2.2.2.1, .int v.2.2.2.2.2.2.2.2.2.2.2.2.2.2.2])), (h1, .inl (z.1, 108, .inl v.1)), (h2, .inl (z.1, 108, .inl v.2.1)), (h3, .inl (z.1, 432, .inl v.2.2.1)), (h4, .inl (z.1, 108, .inl v.2.2.2.2.1)), (h5, .inl (z.1, 80, .inl v.2.2.2.2.2.2.1))] := hD
        refine lv_bipush (v := 8) hx hb dX10_moveFault_63 (by decide) ?_
        refine lv_icmp_lt (tgt := 73) hx hb dX10_moveFault_65 (by decide) (fun c_5 => ?_) (fun c_5 => ?_)
        · refine lv_iconst (v := 0) hx hb dX10_moveFault_73 (by decide) ?_
          subst hQ
          exact ret_i () hx hb hr hK hP hD hS rfl (by unfold f_X10_moveFault; rw [if_pos c_1, if_neg c_3, if_neg c_4, if_pos c_5]; try rfl) dX10_moveFault_74 hlocks
        · refine lv_ldc (v := (-10000003)) hx hb hown (hts (.constant RX10 49 (-10000003)) (by decide +kernel)) dX10_moveFault_68 ?_
          refine lv_goto (tgt := 74) hx hb dX10_moveFault_70 (by decide) ?_
          subst hQ
          exact ret_i () hx hb hr hK hP hD hS rfl (by unfold f_X10_moveFault; rw [if_pos c_1, if_neg c_3, if_neg c_4, if_neg c_5]; try rfl) dX10_moveFault_74 hlocks
    · refine lv_ldc (v := (-10000005)) hx hb hown (hts (.constant RX10 25 (-10000005)) (by decide +kernel)) dX10_moveFault_50 ?_
      refine lv_goto (tgt := 74) hx hb dX10_moveFault_52 (by decide) ?_
      subst hQ
      exact ret_i () hx hb hr hK hP hD hS rfl (by unfold f_X10_moveFault; rw [if_pos c_1, if_pos c_3]; try rfl) dX10_moveFault_74 hlocks
  · refine lv_aload_n hx hb dX10_moveFault_11 rfl (lv_at hl 0 rfl) ?_
    refine va_get (D := D) (ci := 10) (v := .ref h1) (C := RX10) (T := TX10) (N := 16) hx hb hts iX10_moveFault_X10 hown hK hP 0 rfl rfl 0 (by decide) (hts (.fieldLink RX10 7 "BarnPicturesModel" "s" "[I") (by decide +kernel)) (fun _ h9 => h9) rfl dX10_moveFault_12 ?_
    refine lv_iload_n hx hb dX10_moveFault_15 rfl (lv_at hl 1 rfl) ?_
    refine iald_k hx hb hK hP 1 rfl xn (ix_of ee_x (by omega) (by decide)) dX10_moveFault_16 ?_
    refine lv_aload_n hx hb dX10_moveFault_17 rfl (lv_at hl 0 rfl) ?_
    refine va_get (D := D) (ci := 10) (v := .ref h1) (C := RX10) (T := TX10) (N := 16) hx hb hts iX10_moveFault_X10 hown hK hP 0 rfl rfl 0 (by decide) (hts (.fieldLink RX10 7 "BarnPicturesModel" "s" "[I") (by decide +kernel)) (fun _ h9 => h9) rfl dX10_moveFault_18 ?_
    refine lv_bipush (v := 54) hx hb dX10_moveFault_21 (by decide) ?_
    refine iald_k hx hb hK hP 1 rfl 54 (ix_of (nlit 54) (by omega) (by decide)) dX10_moveFault_23 ?_
    refine lv_icmp_eq (tgt := 30) hx hb dX10_moveFault_24 (by decide) (fun c_6 => ?_) (fun c_6 => ?_)
    · refine lv_aload_n hx hb dX10_moveFault_30 rfl (lv_at hl 0 rfl) ?_
      refine va_get (D := D) (ci := 10) (v := .ref h1) (C := RX10) (T := TX10) (N := 16) hx hb hts iX10_moveFault_X10 hown hK hP 0 rfl rfl 0 (by decide) (hts (.fieldLink RX10 7 "BarnPicturesModel" "s" "[I") (by decide +kernel)) (fun _ h9 => h9) rfl dX10_moveFault_31 ?_
      refine lv_iload_n hx hb dX10_moveFault_34 rfl (lv_at hl 1 rfl) ?_
      refine iald_k hx hb hK hP 1 rfl xn (ix_of ee_x (by omega) (by decide)) dX10_moveFault_35 ?_
      refine lv_ldc (v := (-10000005)) hx hb hown (hts (.constant RX10 25 (-10000005)) (by decide +kernel)) dX10_moveFault_36 ?_
      refine lv_icmp_ne (tgt := 45) hx hb dX10_moveFault_38 (by decide) (fun c_7 => ?_) (fun c_7 => absurd c_7 c_1)
      refine lv_iconst (v := 0) hx hb dX10_moveFault_45 (by decide) ?_
      refine lv_iload_n hx hb dX10_moveFault_46 rfl (lv_at hl 2 rfl) ?_
      refine lv_icmp_ne (tgt := 55) hx hb dX10_moveFault_47 (by decide) (fun c_8 => ?_) (fun c_8 => ?_)
      · refine lv_iload_n hx hb dX10_moveFault_55 rfl (lv_at hl 2 rfl) ?_
        refine lv_if_eq (tgt := 73) hx hb dX10_moveFault_56 (by decide) (fun c_9 => ?_) (fun c_9 => ?_)
        · refine lv_iconst (v := 0) hx hb dX10_moveFault_73 (by decide) ?_
          subst hQ
          exact ret_i () hx hb hr hK hP hD hS rfl (by unfold f_X10_moveFault; rw [if_neg c_1, if_pos c_6, if_neg c_8, if_pos c_9]; try rfl) dX10_moveFault_74 hlocks
        · refine lv_aload_n hx hb dX10_moveFault_59 rfl (lv_at hl 0 rfl) ?_
          refine call_i [] (fun _ => [(h, .inr (10, [.ref h1, .ref h2, .ref h3, .int v.2.2.2.1, .ref h4, .int v.2.2.2.2.2.1, .ref h5, .int v.2.2.2.2.2.2.2.1, .int v.2.2.2.2.2.2.2.2.1, .int v.2.2.2.2.2.2.2.2.2.1, .int v.2.2.2.2.2.2.2.2.2.2.1, .int v.2.2.2.2.2.2.2.2.2.2.2.1, .int v.2.2.2.2.2.2.2.2.2.2.2.2.1, .int v.2.2.2.2.2.2.2.2.2.2.2.2.2.1, .int v.2.2.2.2.2.2.2.2.2.2.2.2.2.2.1, .int v.2.2.2.2.2.2.2.2.2.2.2.2.2.2.2])), (h1, .inl (z.1, 108, .inl v.1)), (h2, .inl (z.1, 108, .inl v.2.1)), (h3, .inl (z.1, 432, .inl v.2.2.1)), (h4, .inl (z.1, 108, .inl v.2.2.2.2.1)), (h5, .inl (z.1, 80, .inl v.2.2.2.2.2.2.1))]) (rV (As := []) (rest := []) ⟨hx, hb, hml, hown, hts⟩ (c_X10_inVan l D z h h1 h2 h3 h4 h5 v H.size) (cwV 0 hts gX10_moveFault_X10_inVan rfl rfl rfl (by decide +kernel) ⟨Nat.le_trans (by decide) hRf, Nat.le_trans (by decide) hRl⟩) e0_ok e_0 hK hP hD [0, 1, 2, 3, 4, 5] (by decide) rfl (va_recv hK hP (ci := 10) (q0 := 0) rfl rfl) rfl hl.1 rfl (Nat.le_of_ble_eq_true rfl) dX10_moveFault_60 ⟨Nat.zero_le _, Nat.zero_le _⟩) hK hP hD hS hA [0, 1, 2, 3, 4, 5] [] [0, 1, 2, 3, 4, 5] rfl rfl (by decide) (by decide) (by decide) (fun _ => rfl) (fun zr zu H locs hw hP hD hS => ?_)
          subst hw
          have hP : va_P D vwCl [(h, .inr (10, [.ref h1, .ref h2, .ref h3, .int v.2.2.2.1, .ref h4, .int v.2.2.2.2.2.1, .ref h5, .int v.2.2.2.2.2.2.2.1, .int v.2.2.2.2.2.2.2.2.1, .int v.2.2.2.2.2.2.2.2.2.1, .int v.2.2.2.2.2.2.2.2.2.2.1, .int v.2.2.2.2.2.2.2.2.2.2.2.1, .int v.2.2.2.2.2.2.2.2.2.2.2.2.1, .int v.2.2.2.2.2.2.2.2.2.2.2.2.2.1, .int v.2.2.2.2.2.2.2.2.2.2.2.2.2.2.1, .int v.2.2.2.2.2.2.2.2.2.2.2.2.2.2.2])), (h1, .inl (z.1, 108, .inl v.1)), (h2, .inl (z.1, 108, .inl v.2.1)), (h3, .inl (z.1, 432, .inl v.2.2.1)), (h4, .inl (z.1, 108, .inl v.2.2.2.2.1)), (h5, .inl (z.1, 80, .inl v.2.2.2.2.2.2.1))] H := hP
          have hD : va_D A [(h, .inr (10, [.ref h1, .ref h2, .ref h3, .int v.2.2.2.1, .ref h4, .int v.2.2.2.2.2.1, .ref h5, .int v.2.2.2.2.2.2.2.1, .int v.2.2.2.2.2.2.2.2.1, .int v.2.2.2.2.2.2.2.2.2.1, .int v.2.2.2.2.2.2.2.2.2.2.1, .int v.2.2.2.2.2.2.2.2.2.2.2.1, .int v.2.2.2.2.2.2.2.2.2.2.2.2.1, .int v.2.2.2.2.2.2.2.2.2.2.2.2.2.1, .int v.2.2.2.2.2.2.2.2.2.2.2.2.2.2.1, .int v.2.2.2.2.2.2.2.2.2.2.2.2.2.2.2])), (h1, .inl (z.1, 108, .inl v.1)), (h2, .inl (z.1, 108, .inl v.2.1)), (h3, .inl (z.1, 432, .inl v.2.2.1)), (h4, .inl (z.1, 108, .inl v.2.2.2.2.1)), (h5, .inl (z.1, 80, .inl v.2.2.2.2.2.2.1))] := hD
          refine lv_bipush (v := 8) hx hb dX10_moveFault_63 (by decide) ?_
          refine lv_icmp_lt (tgt := 73) hx hb dX10_moveFault_65 (by decide) (fun c_10 => ?_) (fun c_10 => ?_)
          · refine lv_iconst (v := 0) hx hb dX10_moveFault_73 (by decide) ?_
            subst hQ
            exact ret_i () hx hb hr hK hP hD hS rfl (by unfold f_X10_moveFault; rw [if_neg c_1, if_pos c_6, if_neg c_8, if_neg c_9, if_pos c_10]; try rfl) dX10_moveFault_74 hlocks
          · refine lv_ldc (v := (-10000003)) hx hb hown (hts (.constant RX10 49 (-10000003)) (by decide +kernel)) dX10_moveFault_68 ?_
            refine lv_goto (tgt := 74) hx hb dX10_moveFault_70 (by decide) ?_
            subst hQ
            exact ret_i () hx hb hr hK hP hD hS rfl (by unfold f_X10_moveFault; rw [if_neg c_1, if_pos c_6, if_neg c_8, if_neg c_9, if_neg c_10]; try rfl) dX10_moveFault_74 hlocks
      · refine lv_ldc (v := (-10000005)) hx hb hown (hts (.constant RX10 25 (-10000005)) (by decide +kernel)) dX10_moveFault_50 ?_
        refine lv_goto (tgt := 74) hx hb dX10_moveFault_52 (by decide) ?_
        subst hQ
        exact ret_i () hx hb hr hK hP hD hS rfl (by unfold f_X10_moveFault; rw [if_neg c_1, if_pos c_6, if_pos c_8]; try rfl) dX10_moveFault_74 hlocks
    · refine lv_ldc (v := (-10000004)) hx hb hown (hts (.constant RX10 44 (-10000004)) (by decide +kernel)) dX10_moveFault_27 ?_
      subst hQ
      exact ret_i () hx hb hr hK hP hD hS rfl (by unfold f_X10_moveFault; rw [if_neg c_1, if_neg c_6]; try rfl) dX10_moveFault_29 hlocks

theorem iX10_moves_X10 : ∀ w ∈ wsX100, w ∈ wsX10_moves := by decide +kernel
def f_X10_moves (s : (Nat → Int32)) (x : Int32) (xn : Nat) (y : Int32) : Int32 × (Nat → Int32) := if y = 0 then ((f_X10_inVan (upd s xn (s 54))), (upd s xn (s 54))) else ((f_X10_inVan (upd s xn (-10000005))), (upd s xn (-10000005)))
set_option maxRecDepth 100000 in
set_option maxHeartbeats 1000000 in
theorem c_X10_moves (l : Launch) (D : va_G) (z : ClassId × ClassId × ClassId) (h h1 h2 h3 h4 h5 : Nat) (v : MV) (x : Int32) (xn : Nat) (ee_x : x = nI xn) (bb_x : xn < 108) (y : Int32) (sz : Nat) : CI l yX10_moves wsX10_moves 2 43 0 0 [.ref h, .int x, .int y] D z (wX10 z h h1 h2 h3 h4 h5 v) sz (E0) (fun (zr : Int32) (zu : (Nat → Int32)) => (zr, zu) = f_X10_moves v.1 x xn y) (fun zu => wX10 z h h1 h2 h3 h4 h5 (zu, v.2.1, v.2.2.1, v.2.2.2.1, v.2.2.2.2.1, v.2.2.2.2.2.1, v.2.2.2.2.2.2.1, v.2.2.2.2.2.2.2.1, v.2.2.2.2.2.2.2.2.1, v.2.2.2.2.2.2.2.2.2.1, v.2.2.2.2.2.2.2.2.2.2.1, v.2.2.2.2.2.2.2.2.2.2.2.1, v.2.2.2.2.2.2.2.2.2.2.2.2.1, v.2.2.2.2.2.2.2.2.2.2.2.2.2.1, v.2.2.2.2.2.2.2.2.2.2.2.2.2.2.1, v.2.2.2.2.2.2.2.2.2.2.2.2.2.2.2)) := by
  refine met_i cX10_moves 3 (some .int) (by decide) rfl (Nat.le_of_ble_eq_true rfl) ?_
  intro p e s m args below meth c R Q hx hb hr hml hts hown hlocks hin hRf hRl hRc hRs hc0 hs0 A H hA hP hK hD hS hE hQ ls hl
  have hl : lv_has ls 3 [(0, .ref h), (1, .int x), (2, .int y)] := hl
  have hP : va_P D vwCl [(h, .inr (10, [.ref h1, .ref h2, .ref h3, .int v.2.2.2.1, .ref h4, .int v.2.2.2.2.2.1, .ref h5, .int v.2.2.2.2.2.2.2.1, .int v.2.2.2.2.2.2.2.2.1, .int v.2.2.2.2.2.2.2.2.2.1, .int v.2.2.2.2.2.2.2.2.2.2.1, .int v.2.2.2.2.2.2.2.2.2.2.2.1, .int v.2.2.2.2.2.2.2.2.2.2.2.2.1, .int v.2.2.2.2.2.2.2.2.2.2.2.2.2.1, .int v.2.2.2.2.2.2.2.2.2.2.2.2.2.2.1, .int v.2.2.2.2.2.2.2.2.2.2.2.2.2.2.2])), (h1, .inl (z.1, 108, .inl v.1)), (h2, .inl (z.1, 108, .inl v.2.1)), (h3, .inl (z.1, 432, .inl v.2.2.1)), (h4, .inl (z.1, 108, .inl v.2.2.2.2.1)), (h5, .inl (z.1, 80, .inl v.2.2.2.2.2.2.1))] H := hP
  have hD : va_D A [(h, .inr (10, [.ref h1, .ref h2, .ref h3, .int v.2.2.2.1, .ref h4, .int v.2.2.2.2.2.1, .ref h5, .int v.2.2.2.2.2.2.2.1, .int v.2.2.2.2.2.2.2.2.1, .int v.2.2.2.2.2.2.2.2.2.1, .int v.2.2.2.2.2.2.2.2.2.2.1, .int v.2.2.2.2.2.2.2.2.2.2.2.1, .int v.2.2.2.2.2.2.2.2.2.2.2.2.1, .int v.2.2.2.2.2.2.2.2.2.2.2.2.2.1, .int v.2.2.2.2.2.2.2.2.2.2.2.2.2.2.1, .int v.2.2.2.2.2.2.2.2.2.2.2.2.2.2.2])), (h1, .inl (z.1, 108, .inl v.1)), (h2, .inl (z.1, 108, .inl v.2.1)), (h3, .inl (z.1, 432, .inl v.2.2.1)), (h4, .inl (z.1, 108, .inl v.2.2.2.2.1)), (h5, .inl (z.1, 80, .inl v.2.2.2.2.2.2.1))] := hD
  have hown : s.vm.findClass RX10 = some m.cls := hown
  refine lv_aload_n hx hb dX10_moves_0 rfl (lv_at hl 0 rfl) ?_
  refine va_get (D := D) (ci := 10) (v := .ref h1) (C := RX10) (T := TX10) (N := 16) hx hb hts iX10_moves_X10 hown hK hP 0 rfl rfl 0 (by decide) (hts (.fieldLink RX10 7 "BarnPicturesModel" "s" "[I") (by decide +kernel)) (fun _ h9 => h9) rfl dX10_moves_1 ?_
  refine lv_iload_n hx hb dX10_moves_4 rfl (lv_at hl 1 rfl) ?_
  refine lv_iload_n hx hb dX10_moves_5 rfl (lv_at hl 2 rfl) ?_
  refine lv_if_eq (tgt := 14) hx hb dX10_moves_6 (by decide) (fun c_1 => ?_) (fun c_1 => ?_)
  · refine lv_aload_n hx hb dX10_moves_14 rfl (lv_at hl 0 rfl) ?_
    refine va_get (D := D) (ci := 10) (v := .ref h1) (C := RX10) (T := TX10) (N := 16) hx hb hts iX10_moves_X10 hown hK hP 0 rfl rfl 0 (by decide) (hts (.fieldLink RX10 7 "BarnPicturesModel" "s" "[I") (by decide +kernel)) (fun _ h9 => h9) rfl dX10_moves_15 ?_
    refine lv_bipush (v := 54) hx hb dX10_moves_18 (by decide) ?_
    refine iald_k hx hb hK hP 1 rfl 54 (ix_of (nlit 54) (by omega) (by decide)) dX10_moves_20 ?_
    refine iast_k hx hb hK hP hD hS 1 rfl xn (ix_of ee_x (by omega) (by decide)) dX10_moves_21 (fun H locs hP hD hS => ?_)
    have hP : va_P D vwCl [(h, .inr (10, [.ref h1, .ref h2, .ref h3, .int v.2.2.2.1, .ref h4, .int v.2.2.2.2.2.1, .ref h5, .int v.2.2.2.2.2.2.2.1, .int v.2.2.2.2.2.2.2.2.1, .int v.2.2.2.2.2.2.2.2.2.1, .int v.2.2.2.2.2.2.2.2.2.2.1, .int v.2.2.2.2.2.2.2.2.2.2.2.1, .int v.2.2.2.2.2.2.2.2.2.2.2.2.1, .int v.2.2.2.2.2.2.2.2.2.2.2.2.2.1, .int v.2.2.2.2.2.2.2.2.2.2.2.2.2.2.1, .int v.2.2.2.2.2.2.2.2.2.2.2.2.2.2.2])), (h1, .inl (z.1, 108, .inl (upd v.1 xn (v.1 54)))), (h2, .inl (z.1, 108, .inl v.2.1)), (h3, .inl (z.1, 432, .inl v.2.2.1)), (h4, .inl (z.1, 108, .inl v.2.2.2.2.1)), (h5, .inl (z.1, 80, .inl v.2.2.2.2.2.2.1))] H := hP
    have hD : va_D A [(h, .inr (10, [.ref h1, .ref h2, .ref h3, .int v.2.2.2.1, .ref h4, .int v.2.2.2.2.2.1, .ref h5, .int v.2.2.2.2.2.2.2.1, .int v.2.2.2.2.2.2.2.2.1, .int v.2.2.2.2.2.2.2.2.2.1, .int v.2.2.2.2.2.2.2.2.2.2.1, .int v.2.2.2.2.2.2.2.2.2.2.2.1, .int v.2.2.2.2.2.2.2.2.2.2.2.2.1, .int v.2.2.2.2.2.2.2.2.2.2.2.2.2.1, .int v.2.2.2.2.2.2.2.2.2.2.2.2.2.2.1, .int v.2.2.2.2.2.2.2.2.2.2.2.2.2.2.2])), (h1, .inl (z.1, 108, .inl (upd v.1 xn (v.1 54)))), (h2, .inl (z.1, 108, .inl v.2.1)), (h3, .inl (z.1, 432, .inl v.2.2.1)), (h4, .inl (z.1, 108, .inl v.2.2.2.2.1)), (h5, .inl (z.1, 80, .inl v.2.2.2.2.2.2.1))] := hD
    refine lv_aload_n hx hb dX10_moves_22 rfl (lv_at hl 0 rfl) ?_
    refine call_i [] (fun _ => [(h, .inr (10, [.ref h1, .ref h2, .ref h3, .int v.2.2.2.1, .ref h4, .int v.2.2.2.2.2.1, .ref h5, .int v.2.2.2.2.2.2.2.1, .int v.2.2.2.2.2.2.2.2.1, .int v.2.2.2.2.2.2.2.2.2.1, .int v.2.2.2.2.2.2.2.2.2.2.1, .int v.2.2.2.2.2.2.2.2.2.2.2.1, .int v.2.2.2.2.2.2.2.2.2.2.2.2.1, .int v.2.2.2.2.2.2.2.2.2.2.2.2.2.1, .int v.2.2.2.2.2.2.2.2.2.2.2.2.2.2.1, .int v.2.2.2.2.2.2.2.2.2.2.2.2.2.2.2])), (h1, .inl (z.1, 108, .inl (upd v.1 xn (v.1 54)))), (h2, .inl (z.1, 108, .inl v.2.1)), (h3, .inl (z.1, 432, .inl v.2.2.1)), (h4, .inl (z.1, 108, .inl v.2.2.2.2.1)), (h5, .inl (z.1, 80, .inl v.2.2.2.2.2.2.1))]) (rV (As := []) (rest := []) ⟨hx, hb, hml, hown, hts⟩ (c_X10_inVan l D z h h1 h2 h3 h4 h5 ((upd v.1 xn (v.1 54)), v.2.1, v.2.2.1, v.2.2.2.1, v.2.2.2.2.1, v.2.2.2.2.2.1, v.2.2.2.2.2.2.1, v.2.2.2.2.2.2.2.1, v.2.2.2.2.2.2.2.2.1, v.2.2.2.2.2.2.2.2.2.1, v.2.2.2.2.2.2.2.2.2.2.1, v.2.2.2.2.2.2.2.2.2.2.2.1, v.2.2.2.2.2.2.2.2.2.2.2.2.1, v.2.2.2.2.2.2.2.2.2.2.2.2.2.1, v.2.2.2.2.2.2.2.2.2.2.2.2.2.2.1, v.2.2.2.2.2.2.2.2.2.2.2.2.2.2.2) H.size) (cwV 0 hts gX10_moves_X10_inVan rfl rfl rfl (by decide +kernel) ⟨Nat.le_trans (by decide) hRf, Nat.le_trans (by decide) hRl⟩) e0_ok e_0 hK hP hD [0, 1, 2, 3, 4, 5] (by decide) rfl (va_recv hK hP (ci := 10) (q0 := 0) rfl rfl) rfl hl.1 rfl (Nat.le_of_ble_eq_true rfl) dX10_moves_23 ⟨Nat.zero_le _, Nat.zero_le _⟩) hK hP hD hS hA [0, 1, 2, 3, 4, 5] [] [0, 1, 2, 3, 4, 5] rfl rfl (by decide) (by decide) (by decide) (fun _ => rfl) (fun zr zu H locs hw hP hD hS => ?_)
    subst hw
    have hP : va_P D vwCl [(h, .inr (10, [.ref h1, .ref h2, .ref h3, .int v.2.2.2.1, .ref h4, .int v.2.2.2.2.2.1, .ref h5, .int v.2.2.2.2.2.2.2.1, .int v.2.2.2.2.2.2.2.2.1, .int v.2.2.2.2.2.2.2.2.2.1, .int v.2.2.2.2.2.2.2.2.2.2.1, .int v.2.2.2.2.2.2.2.2.2.2.2.1, .int v.2.2.2.2.2.2.2.2.2.2.2.2.1, .int v.2.2.2.2.2.2.2.2.2.2.2.2.2.1, .int v.2.2.2.2.2.2.2.2.2.2.2.2.2.2.1, .int v.2.2.2.2.2.2.2.2.2.2.2.2.2.2.2])), (h1, .inl (z.1, 108, .inl (upd v.1 xn (v.1 54)))), (h2, .inl (z.1, 108, .inl v.2.1)), (h3, .inl (z.1, 432, .inl v.2.2.1)), (h4, .inl (z.1, 108, .inl v.2.2.2.2.1)), (h5, .inl (z.1, 80, .inl v.2.2.2.2.2.2.1))] H := hP
    have hD : va_D A [(h, .inr (10, [.ref h1, .ref h2, .ref h3, .int v.2.2.2.1, .ref h4, .int v.2.2.2.2.2.1, .ref h5, .int v.2.2.2.2.2.2.2.1, .int v.2.2.2.2.2.2.2.2.1, .int v.2.2.2.2.2.2.2.2.2.1, .int v.2.2.2.2.2.2.2.2.2.2.1, .int v.2.2.2.2.2.2.2.2.2.2.2.1, .int v.2.2.2.2.2.2.2.2.2.2.2.2.1, .int v.2.2.2.2.2.2.2.2.2.2.2.2.2.1, .int v.2.2.2.2.2.2.2.2.2.2.2.2.2.2.1, .int v.2.2.2.2.2.2.2.2.2.2.2.2.2.2.2])), (h1, .inl (z.1, 108, .inl (upd v.1 xn (v.1 54)))), (h2, .inl (z.1, 108, .inl v.2.1)), (h3, .inl (z.1, 432, .inl v.2.2.1)), (h4, .inl (z.1, 108, .inl v.2.2.2.2.1)), (h5, .inl (z.1, 80, .inl v.2.2.2.2.2.2.1))] := hD
    subst hQ
    exact ret_i (upd v.1 xn (v.1 54)) hx hb hr hK hP hD hS rfl (by unfold f_X10_moves; rw [if_pos c_1]; try rfl) dX10_moves_26 hlocks
  · refine lv_ldc (v := (-10000005)) hx hb hown (hts (.constant RX10 25 (-10000005)) (by decide +kernel)) dX10_moves_9 ?_
    refine lv_goto (tgt := 21) hx hb dX10_moves_11 (by decide) ?_
    refine iast_k hx hb hK hP hD hS 1 rfl xn (ix_of ee_x (by omega) (by decide)) dX10_moves_21 (fun H locs hP hD hS => ?_)
    have hP : va_P D vwCl [(h, .inr (10, [.ref h1, .ref h2, .ref h3, .int v.2.2.2.1, .ref h4, .int v.2.2.2.2.2.1, .ref h5, .int v.2.2.2.2.2.2.2.1, .int v.2.2.2.2.2.2.2.2.1, .int v.2.2.2.2.2.2.2.2.2.1, .int v.2.2.2.2.2.2.2.2.2.2.1, .int v.2.2.2.2.2.2.2.2.2.2.2.1, .int v.2.2.2.2.2.2.2.2.2.2.2.2.1, .int v.2.2.2.2.2.2.2.2.2.2.2.2.2.1, .int v.2.2.2.2.2.2.2.2.2.2.2.2.2.2.1, .int v.2.2.2.2.2.2.2.2.2.2.2.2.2.2.2])), (h1, .inl (z.1, 108, .inl (upd v.1 xn (-10000005)))), (h2, .inl (z.1, 108, .inl v.2.1)), (h3, .inl (z.1, 432, .inl v.2.2.1)), (h4, .inl (z.1, 108, .inl v.2.2.2.2.1)), (h5, .inl (z.1, 80, .inl v.2.2.2.2.2.2.1))] H := hP
    have hD : va_D A [(h, .inr (10, [.ref h1, .ref h2, .ref h3, .int v.2.2.2.1, .ref h4, .int v.2.2.2.2.2.1, .ref h5, .int v.2.2.2.2.2.2.2.1, .int v.2.2.2.2.2.2.2.2.1, .int v.2.2.2.2.2.2.2.2.2.1, .int v.2.2.2.2.2.2.2.2.2.2.1, .int v.2.2.2.2.2.2.2.2.2.2.2.1, .int v.2.2.2.2.2.2.2.2.2.2.2.2.1, .int v.2.2.2.2.2.2.2.2.2.2.2.2.2.1, .int v.2.2.2.2.2.2.2.2.2.2.2.2.2.2.1, .int v.2.2.2.2.2.2.2.2.2.2.2.2.2.2.2])), (h1, .inl (z.1, 108, .inl (upd v.1 xn (-10000005)))), (h2, .inl (z.1, 108, .inl v.2.1)), (h3, .inl (z.1, 432, .inl v.2.2.1)), (h4, .inl (z.1, 108, .inl v.2.2.2.2.1)), (h5, .inl (z.1, 80, .inl v.2.2.2.2.2.2.1))] := hD
    refine lv_aload_n hx hb dX10_moves_22 rfl (lv_at hl 0 rfl) ?_
    refine call_i [] (fun _ => [(h, .inr (10, [.ref h1, .ref h2, .ref h3, .int v.2.2.2.1, .ref h4, .int v.2.2.2.2.2.1, .ref h5, .int v.2.2.2.2.2.2.2.1, .int v.2.2.2.2.2.2.2.2.1, .int v.2.2.2.2.2.2.2.2.2.1, .int v.2.2.2.2.2.2.2.2.2.2.1, .int v.2.2.2.2.2.2.2.2.2.2.2.1, .int v.2.2.2.2.2.2.2.2.2.2.2.2.1, .int v.2.2.2.2.2.2.2.2.2.2.2.2.2.1, .int v.2.2.2.2.2.2.2.2.2.2.2.2.2.2.1, .int v.2.2.2.2.2.2.2.2.2.2.2.2.2.2.2])), (h1, .inl (z.1, 108, .inl (upd v.1 xn (-10000005)))), (h2, .inl (z.1, 108, .inl v.2.1)), (h3, .inl (z.1, 432, .inl v.2.2.1)), (h4, .inl (z.1, 108, .inl v.2.2.2.2.1)), (h5, .inl (z.1, 80, .inl v.2.2.2.2.2.2.1))]) (rV (As := []) (rest := []) ⟨hx, hb, hml, hown, hts⟩ (c_X10_inVan l D z h h1 h2 h3 h4 h5 ((upd v.1 xn (-10000005)), v.2.1, v.2.2.1, v.2.2.2.1, v.2.2.2.2.1, v.2.2.2.2.2.1, v.2.2.2.2.2.2.1, v.2.2.2.2.2.2.2.1, v.2.2.2.2.2.2.2.2.1, v.2.2.2.2.2.2.2.2.2.1, v.2.2.2.2.2.2.2.2.2.2.1, v.2.2.2.2.2.2.2.2.2.2.2.1, v.2.2.2.2.2.2.2.2.2.2.2.2.1, v.2.2.2.2.2.2.2.2.2.2.2.2.2.1, v.2.2.2.2.2.2.2.2.2.2.2.2.2.2.1, v.2.2.2.2.2.2.2.2.2.2.2.2.2.2.2) H.size) (cwV 0 hts gX10_moves_X10_inVan rfl rfl rfl (by decide +kernel) ⟨Nat.le_trans (by decide) hRf, Nat.le_trans (by decide) hRl⟩) e0_ok e_0 hK hP hD [0, 1, 2, 3, 4, 5] (by decide) rfl (va_recv hK hP (ci := 10) (q0 := 0) rfl rfl) rfl hl.1 rfl (Nat.le_of_ble_eq_true rfl) dX10_moves_23 ⟨Nat.zero_le _, Nat.zero_le _⟩) hK hP hD hS hA [0, 1, 2, 3, 4, 5] [] [0, 1, 2, 3, 4, 5] rfl rfl (by decide) (by decide) (by decide) (fun _ => rfl) (fun zr zu H locs hw hP hD hS => ?_)
    subst hw
    have hP : va_P D vwCl [(h, .inr (10, [.ref h1, .ref h2, .ref h3, .int v.2.2.2.1, .ref h4, .int v.2.2.2.2.2.1, .ref h5, .int v.2.2.2.2.2.2.2.1, .int v.2.2.2.2.2.2.2.2.1, .int v.2.2.2.2.2.2.2.2.2.1, .int v.2.2.2.2.2.2.2.2.2.2.1, .int v.2.2.2.2.2.2.2.2.2.2.2.1, .int v.2.2.2.2.2.2.2.2.2.2.2.2.1, .int v.2.2.2.2.2.2.2.2.2.2.2.2.2.1, .int v.2.2.2.2.2.2.2.2.2.2.2.2.2.2.1, .int v.2.2.2.2.2.2.2.2.2.2.2.2.2.2.2])), (h1, .inl (z.1, 108, .inl (upd v.1 xn (-10000005)))), (h2, .inl (z.1, 108, .inl v.2.1)), (h3, .inl (z.1, 432, .inl v.2.2.1)), (h4, .inl (z.1, 108, .inl v.2.2.2.2.1)), (h5, .inl (z.1, 80, .inl v.2.2.2.2.2.2.1))] H := hP
    have hD : va_D A [(h, .inr (10, [.ref h1, .ref h2, .ref h3, .int v.2.2.2.1, .ref h4, .int v.2.2.2.2.2.1, .ref h5, .int v.2.2.2.2.2.2.2.1, .int v.2.2.2.2.2.2.2.2.1, .int v.2.2.2.2.2.2.2.2.2.1, .int v.2.2.2.2.2.2.2.2.2.2.1, .int v.2.2.2.2.2.2.2.2.2.2.2.1, .int v.2.2.2.2.2.2.2.2.2.2.2.2.1, .int v.2.2.2.2.2.2.2.2.2.2.2.2.2.1, .int v.2.2.2.2.2.2.2.2.2.2.2.2.2.2.1, .int v.2.2.2.2.2.2.2.2.2.2.2.2.2.2.2])), (h1, .inl (z.1, 108, .inl (upd v.1 xn (-10000005)))), (h2, .inl (z.1, 108, .inl v.2.1)), (h3, .inl (z.1, 432, .inl v.2.2.1)), (h4, .inl (z.1, 108, .inl v.2.2.2.2.1)), (h5, .inl (z.1, 80, .inl v.2.2.2.2.2.2.1))] := hD
    subst hQ
    exact ret_i (upd v.1 xn (-10000005)) hx hb hr hK hP hD hS rfl (by unfold f_X10_moves; rw [if_neg c_1]; try rfl) dX10_moves_26 hlocks

theorem iX10_drives_X10 : ∀ w ∈ wsX100, w ∈ wsX10_drives := by decide +kernel
def f_X10_drives (s : (Nat → Int32)) (x : Int32) : Int32 × (Nat → Int32) := if 0 ≤ ((f_X10_mile x) - (f_X10_mile (s 54))) then (((f_X10_mile x) - (f_X10_mile (s 54))), (upd (upd s 72 ((s 72) + ((f_X10_mile x) - (f_X10_mile (s 54))))) 54 x)) else ((-((f_X10_mile x) - (f_X10_mile (s 54)))), (upd (upd s 72 ((s 72) + (-((f_X10_mile x) - (f_X10_mile (s 54)))))) 54 x))
set_option maxRecDepth 100000 in
set_option maxHeartbeats 1000000 in
theorem c_X10_drives (l : Launch) (D : va_G) (z : ClassId × ClassId × ClassId) (h h1 h2 h3 h4 h5 : Nat) (v : MV) (x : Int32) (sz : Nat) : CI l yX10_drives wsX10_drives 1 20 0 0 [.ref h, .int x] D z (wX10 z h h1 h2 h3 h4 h5 v) sz (E0) (fun (zr : Int32) (zu : (Nat → Int32)) => (zr, zu) = f_X10_drives v.1 x) (fun zu => wX10 z h h1 h2 h3 h4 h5 (zu, v.2.1, v.2.2.1, v.2.2.2.1, v.2.2.2.2.1, v.2.2.2.2.2.1, v.2.2.2.2.2.2.1, v.2.2.2.2.2.2.2.1, v.2.2.2.2.2.2.2.2.1, v.2.2.2.2.2.2.2.2.2.1, v.2.2.2.2.2.2.2.2.2.2.1, v.2.2.2.2.2.2.2.2.2.2.2.1, v.2.2.2.2.2.2.2.2.2.2.2.2.1, v.2.2.2.2.2.2.2.2.2.2.2.2.2.1, v.2.2.2.2.2.2.2.2.2.2.2.2.2.2.1, v.2.2.2.2.2.2.2.2.2.2.2.2.2.2.2)) := by
  refine met_i cX10_drives 3 (some .int) (by decide) rfl (Nat.le_of_ble_eq_true rfl) ?_
  intro p e s m args below meth c R Q hx hb hr hml hts hown hlocks hin hRf hRl hRc hRs hc0 hs0 A H hA hP hK hD hS hE hQ ls hl
  have hl : lv_has ls 3 [(0, .ref h), (1, .int x)] := hl
  have hP : va_P D vwCl [(h, .inr (10, [.ref h1, .ref h2, .ref h3, .int v.2.2.2.1, .ref h4, .int v.2.2.2.2.2.1, .ref h5, .int v.2.2.2.2.2.2.2.1, .int v.2.2.2.2.2.2.2.2.1, .int v.2.2.2.2.2.2.2.2.2.1, .int v.2.2.2.2.2.2.2.2.2.2.1, .int v.2.2.2.2.2.2.2.2.2.2.2.1, .int v.2.2.2.2.2.2.2.2.2.2.2.2.1, .int v.2.2.2.2.2.2.2.2.2.2.2.2.2.1, .int v.2.2.2.2.2.2.2.2.2.2.2.2.2.2.1, .int v.2.2.2.2.2.2.2.2.2.2.2.2.2.2.2])), (h1, .inl (z.1, 108, .inl v.1)), (h2, .inl (z.1, 108, .inl v.2.1)), (h3, .inl (z.1, 432, .inl v.2.2.1)), (h4, .inl (z.1, 108, .inl v.2.2.2.2.1)), (h5, .inl (z.1, 80, .inl v.2.2.2.2.2.2.1))] H := hP
  have hD : va_D A [(h, .inr (10, [.ref h1, .ref h2, .ref h3, .int v.2.2.2.1, .ref h4, .int v.2.2.2.2.2.1, .ref h5, .int v.2.2.2.2.2.2.2.1, .int v.2.2.2.2.2.2.2.2.1, .int v.2.2.2.2.2.2.2.2.2.1, .int v.2.2.2.2.2.2.2.2.2.2.1, .int v.2.2.2.2.2.2.2.2.2.2.2.1, .int v.2.2.2.2.2.2.2.2.2.2.2.2.1, .int v.2.2.2.2.2.2.2.2.2.2.2.2.2.1, .int v.2.2.2.2.2.2.2.2.2.2.2.2.2.2.1, .int v.2.2.2.2.2.2.2.2.2.2.2.2.2.2.2])), (h1, .inl (z.1, 108, .inl v.1)), (h2, .inl (z.1, 108, .inl v.2.1)), (h3, .inl (z.1, 432, .inl v.2.2.1)), (h4, .inl (z.1, 108, .inl v.2.2.2.2.1)), (h5, .inl (z.1, 80, .inl v.2.2.2.2.2.2.1))] := hD
  have hown : s.vm.findClass RX10 = some m.cls := hown
  refine lv_iload_n hx hb dX10_drives_0 rfl (lv_at hl 1 rfl) ?_
  refine call_i [(h, .inr (10, [.ref h1, .ref h2, .ref h3, .int v.2.2.2.1, .ref h4, .int v.2.2.2.2.2.1, .ref h5, .int v.2.2.2.2.2.2.2.1, .int v.2.2.2.2.2.2.2.2.1, .int v.2.2.2.2.2.2.2.2.2.1, .int v.2.2.2.2.2.2.2.2.2.2.1, .int v.2.2.2.2.2.2.2.2.2.2.2.1, .int v.2.2.2.2.2.2.2.2.2.2.2.2.1, .int v.2.2.2.2.2.2.2.2.2.2.2.2.2.1, .int v.2.2.2.2.2.2.2.2.2.2.2.2.2.2.1, .int v.2.2.2.2.2.2.2.2.2.2.2.2.2.2.2])), (h1, .inl (z.1, 108, .inl v.1)), (h2, .inl (z.1, 108, .inl v.2.1)), (h3, .inl (z.1, 432, .inl v.2.2.1)), (h4, .inl (z.1, 108, .inl v.2.2.2.2.1)), (h5, .inl (z.1, 80, .inl v.2.2.2.2.2.2.1))] (fun _ => [(h, .inr (10, [.ref h1, .ref h2, .ref h3, .int v.2.2.2.1, .ref h4, .int v.2.2.2.2.2.1, .ref h5, .int v.2.2.2.2.2.2.2.1, .int v.2.2.2.2.2.2.2.2.1, .int v.2.2.2.2.2.2.2.2.2.1, .int v.2.2.2.2.2.2.2.2.2.2.1, .int v.2.2.2.2.2.2.2.2.2.2.2.1, .int v.2.2.2.2.2.2.2.2.2.2.2.2.1, .int v.2.2.2.2.2.2.2.2.2.2.2.2.2.1, .int v.2.2.2.2.2.2.2.2.2.2.2.2.2.2.1, .int v.2.2.2.2.2.2.2.2.2.2.2.2.2.2.2])), (h1, .inl (z.1, 108, .inl v.1)), (h2, .inl (z.1, 108, .inl v.2.1)), (h3, .inl (z.1, 432, .inl v.2.2.1)), (h4, .inl (z.1, 108, .inl v.2.2.2.2.1)), (h5, .inl (z.1, 80, .inl v.2.2.2.2.2.2.1))]) (rS (As := [.int x]) (rest := []) ⟨hx, hb, hml, hown, hts⟩ (c_X10_mile l D z x H.size) (va_cwS 1 hts gX10_drives_X10_mile rfl rfl rfl (by decide +kernel) ⟨Nat.le_trans (by decide) hRf, Nat.le_trans (by decide) hRl⟩) e0_ok e_0 hK hP hD [] (by decide) rfl rfl hl.1 rfl (Nat.le_of_ble_eq_true rfl) dX10_drives_1 ⟨Nat.zero_le _, Nat.zero_le _⟩) hK hP hD hS hA [] [0, 1, 2, 3, 4, 5] [0, 1, 2, 3, 4, 5] rfl rfl (by decide) (by decide) (by decide) (fun _ => rfl) (fun zr zu H locs hw hP hD hS => ?_)
  subst hw
  have hP : va_P D vwCl [(h, .inr (10, [.ref h1, .ref h2, .ref h3, .int v.2.2.2.1, .ref h4, .int v.2.2.2.2.2.1, .ref h5, .int v.2.2.2.2.2.2.2.1, .int v.2.2.2.2.2.2.2.2.1, .int v.2.2.2.2.2.2.2.2.2.1, .int v.2.2.2.2.2.2.2.2.2.2.1, .int v.2.2.2.2.2.2.2.2.2.2.2.1, .int v.2.2.2.2.2.2.2.2.2.2.2.2.1, .int v.2.2.2.2.2.2.2.2.2.2.2.2.2.1, .int v.2.2.2.2.2.2.2.2.2.2.2.2.2.2.1, .int v.2.2.2.2.2.2.2.2.2.2.2.2.2.2.2])), (h1, .inl (z.1, 108, .inl v.1)), (h2, .inl (z.1, 108, .inl v.2.1)), (h3, .inl (z.1, 432, .inl v.2.2.1)), (h4, .inl (z.1, 108, .inl v.2.2.2.2.1)), (h5, .inl (z.1, 80, .inl v.2.2.2.2.2.2.1))] H := hP
  have hD : va_D A [(h, .inr (10, [.ref h1, .ref h2, .ref h3, .int v.2.2.2.1, .ref h4, .int v.2.2.2.2.2.1, .ref h5, .int v.2.2.2.2.2.2.2.1, .int v.2.2.2.2.2.2.2.2.1, .int v.2.2.2.2.2.2.2.2.2.1, .int v.2.2.2.2.2.2.2.2.2.2.1, .int v.2.2.2.2.2.2.2.2.2.2.2.1, .int v.2.2.2.2.2.2.2.2.2.2.2.2.1, .int v.2.2.2.2.2.2.2.2.2.2.2.2.2.1, .int v.2.2.2.2.2.2.2.2.2.2.2.2.2.2.1, .int v.2.2.2.2.2.2.2.2.2.2.2.2.2.2.2])), (h1, .inl (z.1, 108, .inl v.1)), (h2, .inl (z.1, 108, .inl v.2.1)), (h3, .inl (z.1, 432, .inl v.2.2.1)), (h4, .inl (z.1, 108, .inl v.2.2.2.2.1)), (h5, .inl (z.1, 80, .inl v.2.2.2.2.2.2.1))] := hD
  refine lv_aload_n hx hb dX10_drives_4 rfl (lv_at hl 0 rfl) ?_
  refine va_get (D := D) (ci := 10) (v := .ref h1) (C := RX10) (T := TX10) (N := 16) hx hb hts iX10_drives_X10 hown hK hP 0 rfl rfl 0 (by decide) (hts (.fieldLink RX10 7 "BarnPicturesModel" "s" "[I") (by decide +kernel)) (fun _ h9 => h9) rfl dX10_drives_5 ?_
  refine lv_bipush (v := 54) hx hb dX10_drives_8 (by decide) ?_
  refine iald_k hx hb hK hP 1 rfl 54 (ix_of (nlit 54) (by omega) (by decide)) dX10_drives_10 ?_
  refine call_i [(h, .inr (10, [.ref h1, .ref h2, .ref h3, .int v.2.2.2.1, .ref h4, .int v.2.2.2.2.2.1, .ref h5, .int v.2.2.2.2.2.2.2.1, .int v.2.2.2.2.2.2.2.2.1, .int v.2.2.2.2.2.2.2.2.2.1, .int v.2.2.2.2.2.2.2.2.2.2.1, .int v.2.2.2.2.2.2.2.2.2.2.2.1, .int v.2.2.2.2.2.2.2.2.2.2.2.2.1, .int v.2.2.2.2.2.2.2.2.2.2.2.2.2.1, .int v.2.2.2.2.2.2.2.2.2.2.2.2.2.2.1, .int v.2.2.2.2.2.2.2.2.2.2.2.2.2.2.2])), (h1, .inl (z.1, 108, .inl v.1)), (h2, .inl (z.1, 108, .inl v.2.1)), (h3, .inl (z.1, 432, .inl v.2.2.1)), (h4, .inl (z.1, 108, .inl v.2.2.2.2.1)), (h5, .inl (z.1, 80, .inl v.2.2.2.2.2.2.1))] (fun _ => [(h, .inr (10, [.ref h1, .ref h2, .ref h3, .int v.2.2.2.1, .ref h4, .int v.2.2.2.2.2.1, .ref h5, .int v.2.2.2.2.2.2.2.1, .int v.2.2.2.2.2.2.2.2.1, .int v.2.2.2.2.2.2.2.2.2.1, .int v.2.2.2.2.2.2.2.2.2.2.1, .int v.2.2.2.2.2.2.2.2.2.2.2.1, .int v.2.2.2.2.2.2.2.2.2.2.2.2.1, .int v.2.2.2.2.2.2.2.2.2.2.2.2.2.1, .int v.2.2.2.2.2.2.2.2.2.2.2.2.2.2.1, .int v.2.2.2.2.2.2.2.2.2.2.2.2.2.2.2])), (h1, .inl (z.1, 108, .inl v.1)), (h2, .inl (z.1, 108, .inl v.2.1)), (h3, .inl (z.1, 432, .inl v.2.2.1)), (h4, .inl (z.1, 108, .inl v.2.2.2.2.1)), (h5, .inl (z.1, 80, .inl v.2.2.2.2.2.2.1))]) (rS (As := [.int (v.1 54)]) (rest := [.int (f_X10_mile x)]) ⟨hx, hb, hml, hown, hts⟩ (c_X10_mile l D z (v.1 54) H.size) (va_cwS 1 hts gX10_drives_X10_mile rfl rfl rfl (by decide +kernel) ⟨Nat.le_trans (by decide) hRf, Nat.le_trans (by decide) hRl⟩) e0_ok e_0 hK hP hD [] (by decide) rfl rfl hl.1 rfl (Nat.le_of_ble_eq_true rfl) dX10_drives_11 ⟨Nat.zero_le _, Nat.zero_le _⟩) hK hP hD hS hA [] [0, 1, 2, 3, 4, 5] [0, 1, 2, 3, 4, 5] rfl rfl (by decide) (by decide) (by decide) (fun _ => rfl) (fun zr zu H locs hw hP hD hS => ?_)
  subst hw
  have hP : va_P D vwCl [(h, .inr (10, [.ref h1, .ref h2, .ref h3, .int v.2.2.2.1, .ref h4, .int v.2.2.2.2.2.1, .ref h5, .int v.2.2.2.2.2.2.2.1, .int v.2.2.2.2.2.2.2.2.1, .int v.2.2.2.2.2.2.2.2.2.1, .int v.2.2.2.2.2.2.2.2.2.2.1, .int v.2.2.2.2.2.2.2.2.2.2.2.1, .int v.2.2.2.2.2.2.2.2.2.2.2.2.1, .int v.2.2.2.2.2.2.2.2.2.2.2.2.2.1, .int v.2.2.2.2.2.2.2.2.2.2.2.2.2.2.1, .int v.2.2.2.2.2.2.2.2.2.2.2.2.2.2.2])), (h1, .inl (z.1, 108, .inl v.1)), (h2, .inl (z.1, 108, .inl v.2.1)), (h3, .inl (z.1, 432, .inl v.2.2.1)), (h4, .inl (z.1, 108, .inl v.2.2.2.2.1)), (h5, .inl (z.1, 80, .inl v.2.2.2.2.2.2.1))] H := hP
  have hD : va_D A [(h, .inr (10, [.ref h1, .ref h2, .ref h3, .int v.2.2.2.1, .ref h4, .int v.2.2.2.2.2.1, .ref h5, .int v.2.2.2.2.2.2.2.1, .int v.2.2.2.2.2.2.2.2.1, .int v.2.2.2.2.2.2.2.2.2.1, .int v.2.2.2.2.2.2.2.2.2.2.1, .int v.2.2.2.2.2.2.2.2.2.2.2.1, .int v.2.2.2.2.2.2.2.2.2.2.2.2.1, .int v.2.2.2.2.2.2.2.2.2.2.2.2.2.1, .int v.2.2.2.2.2.2.2.2.2.2.2.2.2.2.1, .int v.2.2.2.2.2.2.2.2.2.2.2.2.2.2.2])), (h1, .inl (z.1, 108, .inl v.1)), (h2, .inl (z.1, 108, .inl v.2.1)), (h3, .inl (z.1, 432, .inl v.2.2.1)), (h4, .inl (z.1, 108, .inl v.2.2.2.2.1)), (h5, .inl (z.1, 80, .inl v.2.2.2.2.2.2.1))] := hD
  refine lv_isub hx hb dX10_drives_14 ?_
  refine lv_istore_n (lv' := [(2, .int ((f_X10_mile x) - (f_X10_mile (v.1 54)))), (0, .ref h), (1, .int x)]) hx hb dX10_drives_15 rfl hl (by decide) rfl (fun ls hl => ?_)
  refine lv_iload_n hx hb dX10_drives_16 rfl (lv_at hl 0 rfl) ?_
  refine lv_if_ge (tgt := 25) hx hb dX10_drives_17 (by decide) (fun c_1 => ?_) (fun c_1 => ?_)
  · refine lv_iload_n hx hb dX10_drives_25 rfl (lv_at hl 0 rfl) ?_
    refine lv_istore_n (lv' := [(2, .int ((f_X10_mile x) - (f_X10_mile (v.1 54)))), (0, .ref h), (1, .int x)]) hx hb dX10_drives_26 rfl hl (by decide) rfl (fun ls hl => ?_)
    refine lv_aload_n hx hb dX10_drives_27 rfl (lv_at hl 1 rfl) ?_
    refine va_get (D := D) (ci := 10) (v := .ref h1) (C := RX10) (T := TX10) (N := 16) hx hb hts iX10_drives_X10 hown hK hP 0 rfl rfl 0 (by decide) (hts (.fieldLink RX10 7 "BarnPicturesModel" "s" "[I") (by decide +kernel)) (fun _ h9 => h9) rfl dX10_drives_28 ?_
    refine lv_bipush (v := 72) hx hb dX10_drives_31 (by decide) ?_
    refine lv_dup2_11 hx hb dX10_drives_33 rfl rfl ?_
    refine iald_k hx hb hK hP 1 rfl 72 (ix_of (nlit 72) (by omega) (by decide)) dX10_drives_34 ?_
    refine lv_iload_n hx hb dX10_drives_35 rfl (lv_at hl 0 rfl) ?_
    refine lv_iadd hx hb dX10_drives_36 ?_
    refine iast_k hx hb hK hP hD hS 1 rfl 72 (ix_of (nlit 72) (by omega) (by decide)) dX10_drives_37 (fun H locs hP hD hS => ?_)
    have hP : va_P D vwCl [(h, .inr (10, [.ref h1, .ref h2, .ref h3, .int v.2.2.2.1, .ref h4, .int v.2.2.2.2.2.1, .ref h5, .int v.2.2.2.2.2.2.2.1, .int v.2.2.2.2.2.2.2.2.1, .int v.2.2.2.2.2.2.2.2.2.1, .int v.2.2.2.2.2.2.2.2.2.2.1, .int v.2.2.2.2.2.2.2.2.2.2.2.1, .int v.2.2.2.2.2.2.2.2.2.2.2.2.1, .int v.2.2.2.2.2.2.2.2.2.2.2.2.2.1, .int v.2.2.2.2.2.2.2.2.2.2.2.2.2.2.1, .int v.2.2.2.2.2.2.2.2.2.2.2.2.2.2.2])), (h1, .inl (z.1, 108, .inl (upd v.1 72 ((v.1 72) + ((f_X10_mile x) - (f_X10_mile (v.1 54))))))), (h2, .inl (z.1, 108, .inl v.2.1)), (h3, .inl (z.1, 432, .inl v.2.2.1)), (h4, .inl (z.1, 108, .inl v.2.2.2.2.1)), (h5, .inl (z.1, 80, .inl v.2.2.2.2.2.2.1))] H := hP
    have hD : va_D A [(h, .inr (10, [.ref h1, .ref h2, .ref h3, .int v.2.2.2.1, .ref h4, .int v.2.2.2.2.2.1, .ref h5, .int v.2.2.2.2.2.2.2.1, .int v.2.2.2.2.2.2.2.2.1, .int v.2.2.2.2.2.2.2.2.2.1, .int v.2.2.2.2.2.2.2.2.2.2.1, .int v.2.2.2.2.2.2.2.2.2.2.2.1, .int v.2.2.2.2.2.2.2.2.2.2.2.2.1, .int v.2.2.2.2.2.2.2.2.2.2.2.2.2.1, .int v.2.2.2.2.2.2.2.2.2.2.2.2.2.2.1, .int v.2.2.2.2.2.2.2.2.2.2.2.2.2.2.2])), (h1, .inl (z.1, 108, .inl (upd v.1 72 ((v.1 72) + ((f_X10_mile x) - (f_X10_mile (v.1 54))))))), (h2, .inl (z.1, 108, .inl v.2.1)), (h3, .inl (z.1, 432, .inl v.2.2.1)), (h4, .inl (z.1, 108, .inl v.2.2.2.2.1)), (h5, .inl (z.1, 80, .inl v.2.2.2.2.2.2.1))] := hD
    refine lv_aload_n hx hb dX10_drives_38 rfl (lv_at hl 1 rfl) ?_
    refine va_get (D := D) (ci := 10) (v := .ref h1) (C := RX10) (T := TX10) (N := 16) hx hb hts iX10_drives_X10 hown hK hP 0 rfl rfl 0 (by decide) (hts (.fieldLink RX10 7 "BarnPicturesModel" "s" "[I") (by decide +kernel)) (fun _ h9 => h9) rfl dX10_drives_39 ?_
    refine lv_bipush (v := 54) hx hb dX10_drives_42 (by decide) ?_
    refine lv_iload_n hx hb dX10_drives_44 rfl (lv_at hl 2 rfl) ?_
    refine iast_k hx hb hK hP hD hS 1 rfl 54 (ix_of (nlit 54) (by omega) (by decide)) dX10_drives_45 (fun H locs hP hD hS => ?_)
    have hP : va_P D vwCl [(h, .inr (10, [.ref h1, .ref h2, .ref h3, .int v.2.2.2.1, .ref h4, .int v.2.2.2.2.2.1, .ref h5, .int v.2.2.2.2.2.2.2.1, .int v.2.2.2.2.2.2.2.2.1, .int v.2.2.2.2.2.2.2.2.2.1, .int v.2.2.2.2.2.2.2.2.2.2.1, .int v.2.2.2.2.2.2.2.2.2.2.2.1, .int v.2.2.2.2.2.2.2.2.2.2.2.2.1, .int v.2.2.2.2.2.2.2.2.2.2.2.2.2.1, .int v.2.2.2.2.2.2.2.2.2.2.2.2.2.2.1, .int v.2.2.2.2.2.2.2.2.2.2.2.2.2.2.2])), (h1, .inl (z.1, 108, .inl (upd (upd v.1 72 ((v.1 72) + ((f_X10_mile x) - (f_X10_mile (v.1 54))))) 54 x))), (h2, .inl (z.1, 108, .inl v.2.1)), (h3, .inl (z.1, 432, .inl v.2.2.1)), (h4, .inl (z.1, 108, .inl v.2.2.2.2.1)), (h5, .inl (z.1, 80, .inl v.2.2.2.2.2.2.1))] H := hP
    have hD : va_D A [(h, .inr (10, [.ref h1, .ref h2, .ref h3, .int v.2.2.2.1, .ref h4, .int v.2.2.2.2.2.1, .ref h5, .int v.2.2.2.2.2.2.2.1, .int v.2.2.2.2.2.2.2.2.1, .int v.2.2.2.2.2.2.2.2.2.1, .int v.2.2.2.2.2.2.2.2.2.2.1, .int v.2.2.2.2.2.2.2.2.2.2.2.1, .int v.2.2.2.2.2.2.2.2.2.2.2.2.1, .int v.2.2.2.2.2.2.2.2.2.2.2.2.2.1, .int v.2.2.2.2.2.2.2.2.2.2.2.2.2.2.1, .int v.2.2.2.2.2.2.2.2.2.2.2.2.2.2.2])), (h1, .inl (z.1, 108, .inl (upd (upd v.1 72 ((v.1 72) + ((f_X10_mile x) - (f_X10_mile (v.1 54))))) 54 x))), (h2, .inl (z.1, 108, .inl v.2.1)), (h3, .inl (z.1, 432, .inl v.2.2.1)), (h4, .inl (z.1, 108, .inl v.2.2.2.2.1)), (h5, .inl (z.1, 80, .inl v.2.2.2.2.2.2.1))] := hD
    refine lv_iload_n hx hb dX10_drives_46 rfl (lv_at hl 0 rfl) ?_
    subst hQ
    exact ret_i (upd (upd v.1 72 ((v.1 72) + ((f_X10_mile x) - (f_X10_mile (v.1 54))))) 54 x) hx hb hr hK hP hD hS rfl (by unfold f_X10_drives; rw [if_pos c_1]; try rfl) dX10_drives_47 hlocks
  · refine lv_iload_n hx hb dX10_drives_20 rfl (lv_at hl 0 rfl) ?_
    refine lv_ineg hx hb dX10_drives_21 ?_
    refine lv_goto (tgt := 26) hx hb dX10_drives_22 (by decide) ?_
    refine lv_istore_n (lv' := [(2, .int (-((f_X10_mile x) - (f_X10_mile (v.1 54))))), (0, .ref h), (1, .int x)]) hx hb dX10_drives_26 rfl hl (by decide) rfl (fun ls hl => ?_)
    refine lv_aload_n hx hb dX10_drives_27 rfl (lv_at hl 1 rfl) ?_
    refine va_get (D := D) (ci := 10) (v := .ref h1) (C := RX10) (T := TX10) (N := 16) hx hb hts iX10_drives_X10 hown hK hP 0 rfl rfl 0 (by decide) (hts (.fieldLink RX10 7 "BarnPicturesModel" "s" "[I") (by decide +kernel)) (fun _ h9 => h9) rfl dX10_drives_28 ?_
    refine lv_bipush (v := 72) hx hb dX10_drives_31 (by decide) ?_
    refine lv_dup2_11 hx hb dX10_drives_33 rfl rfl ?_
    refine iald_k hx hb hK hP 1 rfl 72 (ix_of (nlit 72) (by omega) (by decide)) dX10_drives_34 ?_
    refine lv_iload_n hx hb dX10_drives_35 rfl (lv_at hl 0 rfl) ?_
    refine lv_iadd hx hb dX10_drives_36 ?_
    refine iast_k hx hb hK hP hD hS 1 rfl 72 (ix_of (nlit 72) (by omega) (by decide)) dX10_drives_37 (fun H locs hP hD hS => ?_)
    have hP : va_P D vwCl [(h, .inr (10, [.ref h1, .ref h2, .ref h3, .int v.2.2.2.1, .ref h4, .int v.2.2.2.2.2.1, .ref h5, .int v.2.2.2.2.2.2.2.1, .int v.2.2.2.2.2.2.2.2.1, .int v.2.2.2.2.2.2.2.2.2.1, .int v.2.2.2.2.2.2.2.2.2.2.1, .int v.2.2.2.2.2.2.2.2.2.2.2.1, .int v.2.2.2.2.2.2.2.2.2.2.2.2.1, .int v.2.2.2.2.2.2.2.2.2.2.2.2.2.1, .int v.2.2.2.2.2.2.2.2.2.2.2.2.2.2.1, .int v.2.2.2.2.2.2.2.2.2.2.2.2.2.2.2])), (h1, .inl (z.1, 108, .inl (upd v.1 72 ((v.1 72) + (-((f_X10_mile x) - (f_X10_mile (v.1 54)))))))), (h2, .inl (z.1, 108, .inl v.2.1)), (h3, .inl (z.1, 432, .inl v.2.2.1)), (h4, .inl (z.1, 108, .inl v.2.2.2.2.1)), (h5, .inl (z.1, 80, .inl v.2.2.2.2.2.2.1))] H := hP
    have hD : va_D A [(h, .inr (10, [.ref h1, .ref h2, .ref h3, .int v.2.2.2.1, .ref h4, .int v.2.2.2.2.2.1, .ref h5, .int v.2.2.2.2.2.2.2.1, .int v.2.2.2.2.2.2.2.2.1, .int v.2.2.2.2.2.2.2.2.2.1, .int v.2.2.2.2.2.2.2.2.2.2.1, .int v.2.2.2.2.2.2.2.2.2.2.2.1, .int v.2.2.2.2.2.2.2.2.2.2.2.2.1, .int v.2.2.2.2.2.2.2.2.2.2.2.2.2.1, .int v.2.2.2.2.2.2.2.2.2.2.2.2.2.2.1, .int v.2.2.2.2.2.2.2.2.2.2.2.2.2.2.2])), (h1, .inl (z.1, 108, .inl (upd v.1 72 ((v.1 72) + (-((f_X10_mile x) - (f_X10_mile (v.1 54)))))))), (h2, .inl (z.1, 108, .inl v.2.1)), (h3, .inl (z.1, 432, .inl v.2.2.1)), (h4, .inl (z.1, 108, .inl v.2.2.2.2.1)), (h5, .inl (z.1, 80, .inl v.2.2.2.2.2.2.1))] := hD
    refine lv_aload_n hx hb dX10_drives_38 rfl (lv_at hl 1 rfl) ?_
    refine va_get (D := D) (ci := 10) (v := .ref h1) (C := RX10) (T := TX10) (N := 16) hx hb hts iX10_drives_X10 hown hK hP 0 rfl rfl 0 (by decide) (hts (.fieldLink RX10 7 "BarnPicturesModel" "s" "[I") (by decide +kernel)) (fun _ h9 => h9) rfl dX10_drives_39 ?_
    refine lv_bipush (v := 54) hx hb dX10_drives_42 (by decide) ?_
    refine lv_iload_n hx hb dX10_drives_44 rfl (lv_at hl 2 rfl) ?_
    refine iast_k hx hb hK hP hD hS 1 rfl 54 (ix_of (nlit 54) (by omega) (by decide)) dX10_drives_45 (fun H locs hP hD hS => ?_)
    have hP : va_P D vwCl [(h, .inr (10, [.ref h1, .ref h2, .ref h3, .int v.2.2.2.1, .ref h4, .int v.2.2.2.2.2.1, .ref h5, .int v.2.2.2.2.2.2.2.1, .int v.2.2.2.2.2.2.2.2.1, .int v.2.2.2.2.2.2.2.2.2.1, .int v.2.2.2.2.2.2.2.2.2.2.1, .int v.2.2.2.2.2.2.2.2.2.2.2.1, .int v.2.2.2.2.2.2.2.2.2.2.2.2.1, .int v.2.2.2.2.2.2.2.2.2.2.2.2.2.1, .int v.2.2.2.2.2.2.2.2.2.2.2.2.2.2.1, .int v.2.2.2.2.2.2.2.2.2.2.2.2.2.2.2])), (h1, .inl (z.1, 108, .inl (upd (upd v.1 72 ((v.1 72) + (-((f_X10_mile x) - (f_X10_mile (v.1 54)))))) 54 x))), (h2, .inl (z.1, 108, .inl v.2.1)), (h3, .inl (z.1, 432, .inl v.2.2.1)), (h4, .inl (z.1, 108, .inl v.2.2.2.2.1)), (h5, .inl (z.1, 80, .inl v.2.2.2.2.2.2.1))] H := hP
    have hD : va_D A [(h, .inr (10, [.ref h1, .ref h2, .ref h3, .int v.2.2.2.1, .ref h4, .int v.2.2.2.2.2.1, .ref h5, .int v.2.2.2.2.2.2.2.1, .int v.2.2.2.2.2.2.2.2.1, .int v.2.2.2.2.2.2.2.2.2.1, .int v.2.2.2.2.2.2.2.2.2.2.1, .int v.2.2.2.2.2.2.2.2.2.2.2.1, .int v.2.2.2.2.2.2.2.2.2.2.2.2.1, .int v.2.2.2.2.2.2.2.2.2.2.2.2.2.1, .int v.2.2.2.2.2.2.2.2.2.2.2.2.2.2.1, .int v.2.2.2.2.2.2.2.2.2.2.2.2.2.2.2])), (h1, .inl (z.1, 108, .inl (upd (upd v.1 72 ((v.1 72) + (-((f_X10_mile x) - (f_X10_mile (v.1 54)))))) 54 x))), (h2, .inl (z.1, 108, .inl v.2.1)), (h3, .inl (z.1, 432, .inl v.2.2.1)), (h4, .inl (z.1, 108, .inl v.2.2.2.2.1)), (h5, .inl (z.1, 80, .inl v.2.2.2.2.2.2.1))] := hD
    refine lv_iload_n hx hb dX10_drives_46 rfl (lv_at hl 0 rfl) ?_
    subst hQ
    exact ret_i (upd (upd v.1 72 ((v.1 72) + (-((f_X10_mile x) - (f_X10_mile (v.1 54)))))) 54 x) hx hb hr hK hP hD hS rfl (by unfold f_X10_drives; rw [if_neg c_1]; try rfl) dX10_drives_47 hlocks

theorem iX10_fuelFault_X10 : ∀ w ∈ wsX100, w ∈ wsX10_fuelFault := by decide +kernel
def f_X10_fuelFault (s : (Nat → Int32)) (x : Int32) (y : Int32) : Int32 := if (f_X10_isGenerator x) = 0 then (-10000001) else if (f_X10_in y 5 500) = 0 then (-10000002) else if (y - y / 5 * 5) = 0 then if (s (50 + (2 * x.toNatClampNeg))) = (-10000005) then if ((s ((50 + (2 * x.toNatClampNeg)) + 1)) + y) ≤ 500 then 0 else (-10000003) else (-10000004) else (-10000002)
set_option maxRecDepth 100000 in
set_option maxHeartbeats 1000000 in
theorem c_X10_fuelFault (l : Launch) (D : va_G) (z : ClassId × ClassId × ClassId) (h h1 h2 h3 h4 h5 : Nat) (v : MV) (x : Int32) (y : Int32) (sz : Nat) : CI l yX10_fuelFault wsX10_fuelFault 2 42 0 0 [.ref h, .int x, .int y] D z (wX10 z h h1 h2 h3 h4 h5 v) sz (E0) (fun (zr : Int32) (_ : Unit) => zr = f_X10_fuelFault v.1 x y) (fun _ => wX10 z h h1 h2 h3 h4 h5 v) := by
  refine met_i cX10_fuelFault 3 (some .int) (by decide) rfl (Nat.le_of_ble_eq_true rfl) ?_
  intro p e s m args below meth c R Q hx hb hr hml hts hown hlocks hin hRf hRl hRc hRs hc0 hs0 A H hA hP hK hD hS hE hQ ls hl
  have hl : lv_has ls 3 [(0, .ref h), (1, .int x), (2, .int y)] := hl
  have hP : va_P D vwCl [(h, .inr (10, [.ref h1, .ref h2, .ref h3, .int v.2.2.2.1, .ref h4, .int v.2.2.2.2.2.1, .ref h5, .int v.2.2.2.2.2.2.2.1, .int v.2.2.2.2.2.2.2.2.1, .int v.2.2.2.2.2.2.2.2.2.1, .int v.2.2.2.2.2.2.2.2.2.2.1, .int v.2.2.2.2.2.2.2.2.2.2.2.1, .int v.2.2.2.2.2.2.2.2.2.2.2.2.1, .int v.2.2.2.2.2.2.2.2.2.2.2.2.2.1, .int v.2.2.2.2.2.2.2.2.2.2.2.2.2.2.1, .int v.2.2.2.2.2.2.2.2.2.2.2.2.2.2.2])), (h1, .inl (z.1, 108, .inl v.1)), (h2, .inl (z.1, 108, .inl v.2.1)), (h3, .inl (z.1, 432, .inl v.2.2.1)), (h4, .inl (z.1, 108, .inl v.2.2.2.2.1)), (h5, .inl (z.1, 80, .inl v.2.2.2.2.2.2.1))] H := hP
  have hD : va_D A [(h, .inr (10, [.ref h1, .ref h2, .ref h3, .int v.2.2.2.1, .ref h4, .int v.2.2.2.2.2.1, .ref h5, .int v.2.2.2.2.2.2.2.1, .int v.2.2.2.2.2.2.2.2.1, .int v.2.2.2.2.2.2.2.2.2.1, .int v.2.2.2.2.2.2.2.2.2.2.1, .int v.2.2.2.2.2.2.2.2.2.2.2.1, .int v.2.2.2.2.2.2.2.2.2.2.2.2.1, .int v.2.2.2.2.2.2.2.2.2.2.2.2.2.1, .int v.2.2.2.2.2.2.2.2.2.2.2.2.2.2.1, .int v.2.2.2.2.2.2.2.2.2.2.2.2.2.2.2])), (h1, .inl (z.1, 108, .inl v.1)), (h2, .inl (z.1, 108, .inl v.2.1)), (h3, .inl (z.1, 432, .inl v.2.2.1)), (h4, .inl (z.1, 108, .inl v.2.2.2.2.1)), (h5, .inl (z.1, 80, .inl v.2.2.2.2.2.2.1))] := hD
  have hown : s.vm.findClass RX10 = some m.cls := hown
  refine lv_iload_n hx hb dX10_fuelFault_0 rfl (lv_at hl 1 rfl) ?_
  refine call_i [(h, .inr (10, [.ref h1, .ref h2, .ref h3, .int v.2.2.2.1, .ref h4, .int v.2.2.2.2.2.1, .ref h5, .int v.2.2.2.2.2.2.2.1, .int v.2.2.2.2.2.2.2.2.1, .int v.2.2.2.2.2.2.2.2.2.1, .int v.2.2.2.2.2.2.2.2.2.2.1, .int v.2.2.2.2.2.2.2.2.2.2.2.1, .int v.2.2.2.2.2.2.2.2.2.2.2.2.1, .int v.2.2.2.2.2.2.2.2.2.2.2.2.2.1, .int v.2.2.2.2.2.2.2.2.2.2.2.2.2.2.1, .int v.2.2.2.2.2.2.2.2.2.2.2.2.2.2.2])), (h1, .inl (z.1, 108, .inl v.1)), (h2, .inl (z.1, 108, .inl v.2.1)), (h3, .inl (z.1, 432, .inl v.2.2.1)), (h4, .inl (z.1, 108, .inl v.2.2.2.2.1)), (h5, .inl (z.1, 80, .inl v.2.2.2.2.2.2.1))] (fun _ => [(h, .inr (10, [.ref h1, .ref h2, .ref h3, .int v.2.2.2.1, .ref h4, .int v.2.2.2.2.2.1, .ref h5, .int v.2.2.2.2.2.2.2.1, .int v.2.2.2.2.2.2.2.2.1, .int v.2.2.2.2.2.2.2.2.2.1, .int v.2.2.2.2.2.2.2.2.2.2.1, .int v.2.2.2.2.2.2.2.2.2.2.2.1, .int v.2.2.2.2.2.2.2.2.2.2.2.2.1, .int v.2.2.2.2.2.2.2.2.2.2.2.2.2.1, .int v.2.2.2.2.2.2.2.2.2.2.2.2.2.2.1, .int v.2.2.2.2.2.2.2.2.2.2.2.2.2.2.2])), (h1, .inl (z.1, 108, .inl v.1)), (h2, .inl (z.1, 108, .inl v.2.1)), (h3, .inl (z.1, 432, .inl v.2.2.1)), (h4, .inl (z.1, 108, .inl v.2.2.2.2.1)), (h5, .inl (z.1, 80, .inl v.2.2.2.2.2.2.1))]) (rS (As := [.int x]) (rest := []) ⟨hx, hb, hml, hown, hts⟩ (c_X10_isGenerator l D z x H.size) (va_cwS 1 hts gX10_fuelFault_X10_isGenerator rfl rfl rfl (by decide +kernel) ⟨Nat.le_trans (by decide) hRf, Nat.le_trans (by decide) hRl⟩) e0_ok e_0 hK hP hD [] (by decide) rfl rfl hl.1 rfl (Nat.le_of_ble_eq_true rfl) dX10_fuelFault_1 ⟨Nat.zero_le _, Nat.zero_le _⟩) hK hP hD hS hA [] [0, 1, 2, 3, 4, 5] [0, 1, 2, 3, 4, 5] rfl rfl (by decide) (by decide) (by decide) (fun _ => rfl) (fun zr zu H locs hw hP hD hS => ?_)
  obtain ⟨hw, hz_1⟩ := hw
  subst hw
  have hP : va_P D vwCl [(h, .inr (10, [.ref h1, .ref h2, .ref h3, .int v.2.2.2.1, .ref h4, .int v.2.2.2.2.2.1, .ref h5, .int v.2.2.2.2.2.2.2.1, .int v.2.2.2.2.2.2.2.2.1, .int v.2.2.2.2.2.2.2.2.2.1, .int v.2.2.2.2.2.2.2.2.2.2.1, .int v.2.2.2.2.2.2.2.2.2.2.2.1, .int v.2.2.2.2.2.2.2.2.2.2.2.2.1, .int v.2.2.2.2.2.2.2.2.2.2.2.2.2.1, .int v.2.2.2.2.2.2.2.2.2.2.2.2.2.2.1, .int v.2.2.2.2.2.2.2.2.2.2.2.2.2.2.2])), (h1, .inl (z.1, 108, .inl v.1)), (h2, .inl (z.1, 108, .inl v.2.1)), (h3, .inl (z.1, 432, .inl v.2.2.1)), (h4, .inl (z.1, 108, .inl v.2.2.2.2.1)), (h5, .inl (z.1, 80, .inl v.2.2.2.2.2.2.1))] H := hP
  have hD : va_D A [(h, .inr (10, [.ref h1, .ref h2, .ref h3, .int v.2.2.2.1, .ref h4, .int v.2.2.2.2.2.1, .ref h5, .int v.2.2.2.2.2.2.2.1, .int v.2.2.2.2.2.2.2.2.1, .int v.2.2.2.2.2.2.2.2.2.1, .int v.2.2.2.2.2.2.2.2.2.2.1, .int v.2.2.2.2.2.2.2.2.2.2.2.1, .int v.2.2.2.2.2.2.2.2.2.2.2.2.1, .int v.2.2.2.2.2.2.2.2.2.2.2.2.2.1, .int v.2.2.2.2.2.2.2.2.2.2.2.2.2.2.1, .int v.2.2.2.2.2.2.2.2.2.2.2.2.2.2.2])), (h1, .inl (z.1, 108, .inl v.1)), (h2, .inl (z.1, 108, .inl v.2.1)), (h3, .inl (z.1, 432, .inl v.2.2.1)), (h4, .inl (z.1, 108, .inl v.2.2.2.2.1)), (h5, .inl (z.1, 80, .inl v.2.2.2.2.2.2.1))] := hD
  refine lv_if_ne (tgt := 10) hx hb dX10_fuelFault_4 (by decide) (fun c_2 => ?_) (fun c_2 => ?_)
  · obtain ⟨en_k_3, bn_k_3⟩ := mGen_n c_2
    refine lv_iload_n hx hb dX10_fuelFault_10 rfl (lv_at hl 2 rfl) ?_
    refine lv_iconst (v := 5) hx hb dX10_fuelFault_11 (by decide) ?_
    refine lv_sipush (v := 500) hx hb dX10_fuelFault_12 (by decide) ?_
    refine call_i [(h, .inr (10, [.ref h1, .ref h2, .ref h3, .int v.2.2.2.1, .ref h4, .int v.2.2.2.2.2.1, .ref h5, .int v.2.2.2.2.2.2.2.1, .int v.2.2.2.2.2.2.2.2.1, .int v.2.2.2.2.2.2.2.2.2.1, .int v.2.2.2.2.2.2.2.2.2.2.1, .int v.2.2.2.2.2.2.2.2.2.2.2.1, .int v.2.2.2.2.2.2.2.2.2.2.2.2.1, .int v.2.2.2.2.2.2.2.2.2.2.2.2.2.1, .int v.2.2.2.2.2.2.2.2.2.2.2.2.2.2.1, .int v.2.2.2.2.2.2.2.2.2.2.2.2.2.2.2])), (h1, .inl (z.1, 108, .inl v.1)), (h2, .inl (z.1, 108, .inl v.2.1)), (h3, .inl (z.1, 432, .inl v.2.2.1)), (h4, .inl (z.1, 108, .inl v.2.2.2.2.1)), (h5, .inl (z.1, 80, .inl v.2.2.2.2.2.2.1))] (fun _ => [(h, .inr (10, [.ref h1, .ref h2, .ref h3, .int v.2.2.2.1, .ref h4, .int v.2.2.2.2.2.1, .ref h5, .int v.2.2.2.2.2.2.2.1, .int v.2.2.2.2.2.2.2.2.1, .int v.2.2.2.2.2.2.2.2.2.1, .int v.2.2.2.2.2.2.2.2.2.2.1, .int v.2.2.2.2.2.2.2.2.2.2.2.1, .int v.2.2.2.2.2.2.2.2.2.2.2.2.1, .int v.2.2.2.2.2.2.2.2.2.2.2.2.2.1, .int v.2.2.2.2.2.2.2.2.2.2.2.2.2.2.1, .int v.2.2.2.2.2.2.2.2.2.2.2.2.2.2.2])), (h1, .inl (z.1, 108, .inl v.1)), (h2, .inl (z.1, 108, .inl v.2.1)), (h3, .inl (z.1, 432, .inl v.2.2.1)), (h4, .inl (z.1, 108, .inl v.2.2.2.2.1)), (h5, .inl (z.1, 80, .inl v.2.2.2.2.2.2.1))]) (rS (As := [.int y, .int 5, .int 500]) (rest := []) ⟨hx, hb, hml, hown, hts⟩ (c_X10_in l D z y 5 500 H.size) (va_cwS 3 hts gX10_fuelFault_X10_in rfl rfl rfl (by decide +kernel) ⟨Nat.le_trans (by decide) hRf, Nat.le_trans (by decide) hRl⟩) e0_ok e_0 hK hP hD [] (by decide) rfl rfl hl.1 rfl (Nat.le_of_ble_eq_true rfl) dX10_fuelFault_15 ⟨Nat.zero_le _, Nat.zero_le _⟩) hK hP hD hS hA [] [0, 1, 2, 3, 4, 5] [0, 1, 2, 3, 4, 5] rfl rfl (by decide) (by decide) (by decide) (fun _ => rfl) (fun zr zu H locs hw hP hD hS => ?_)
    obtain ⟨hw, hz_4⟩ := hw
    subst hw
    have hP : va_P D vwCl [(h, .inr (10, [.ref h1, .ref h2, .ref h3, .int v.2.2.2.1, .ref h4, .int v.2.2.2.2.2.1, .ref h5, .int v.2.2.2.2.2.2.2.1, .int v.2.2.2.2.2.2.2.2.1, .int v.2.2.2.2.2.2.2.2.2.1, .int v.2.2.2.2.2.2.2.2.2.2.1, .int v.2.2.2.2.2.2.2.2.2.2.2.1, .int v.2.2.2.2.2.2.2.2.2.2.2.2.1, .int v.2.2.2.2.2.2.2.2.2.2.2.2.2.1, .int v.2.2.2.2.2.2.2.2.2.2.2.2.2.2.1, .int v.2.2.2.2.2.2.2.2.2.2.2.2.2.2.2])), (h1, .inl (z.1, 108, .inl v.1)), (h2, .inl (z.1, 108, .inl v.2.1)), (h3, .inl (z.1, 432, .inl v.2.2.1)), (h4, .inl (z.1, 108, .inl v.2.2.2.2.1)), (h5, .inl (z.1, 80, .inl v.2.2.2.2.2.2.1))] H := hP
    have hD : va_D A [(h, .inr (10, [.ref h1, .ref h2, .ref h3, .int v.2.2.2.1, .ref h4, .int v.2.2.2.2.2.1, .ref h5, .int v.2.2.2.2.2.2.2.1, .int v.2.2.2.2.2.2.2.2.1, .int v.2.2.2.2.2.2.2.2.2.1, .int v.2.2.2.2.2.2.2.2.2.2.1, .int v.2.2.2.2.2.2.2.2.2.2.2.1, .int v.2.2.2.2.2.2.2.2.2.2.2.2.1, .int v.2.2.2.2.2.2.2.2.2.2.2.2.2.1, .int v.2.2.2.2.2.2.2.2.2.2.2.2.2.2.1, .int v.2.2.2.2.2.2.2.2.2.2.2.2.2.2.2])), (h1, .inl (z.1, 108, .inl v.1)), (h2, .inl (z.1, 108, .inl v.2.1)), (h3, .inl (z.1, 432, .inl v.2.2.1)), (h4, .inl (z.1, 108, .inl v.2.2.2.2.1)), (h5, .inl (z.1, 80, .inl v.2.2.2.2.2.2.1))] := hD
    refine lv_if_eq (tgt := 27) hx hb dX10_fuelFault_18 (by decide) (fun c_5 => ?_) (fun c_5 => ?_)
    · refine lv_ldc (v := (-10000002)) hx hb hown (hts (.constant RX10 59 (-10000002)) (by decide +kernel)) dX10_fuelFault_27 ?_
      subst hQ
      exact ret_i () hx hb hr hK hP hD hS rfl (by unfold f_X10_fuelFault; rw [if_neg c_2, if_pos c_5]; try rfl) dX10_fuelFault_29 hlocks
    · refine lv_iload_n hx hb dX10_fuelFault_21 rfl (lv_at hl 2 rfl) ?_
      refine lv_iconst (v := 5) hx hb dX10_fuelFault_22 (by decide) ?_
      refine lv_irem hx hb dX10_fuelFault_23 (by decide) ?_
      refine lv_if_eq (tgt := 30) hx hb dX10_fuelFault_24 (by decide) (fun c_6 => ?_) (fun c_6 => ?_)
      · refine lv_aload_n hx hb dX10_fuelFault_30 rfl (lv_at hl 0 rfl) ?_
        refine va_get (D := D) (ci := 10) (v := .ref h1) (C := RX10) (T := TX10) (N := 16) hx hb hts iX10_fuelFault_X10 hown hK hP 0 rfl rfl 0 (by decide) (hts (.fieldLink RX10 7 "BarnPicturesModel" "s" "[I") (by decide +kernel)) (fun _ h9 => h9) rfl dX10_fuelFault_31 ?_
        refine lv_bipush (v := 50) hx hb dX10_fuelFault_34 (by decide) ?_
        refine lv_iconst (v := 2) hx hb dX10_fuelFault_36 (by decide) ?_
        refine lv_iload_n hx hb dX10_fuelFault_37 rfl (lv_at hl 1 rfl) ?_
        refine lv_imul hx hb dX10_fuelFault_38 ?_
        refine lv_iadd hx hb dX10_fuelFault_39 ?_
        refine iald_k hx hb hK hP 1 rfl (50 + (2 * x.toNatClampNeg)) (ix_of (nadd (nlit 50) (nmul (nlit 2) en_k_3)) (by omega) (by decide)) dX10_fuelFault_40 ?_
        refine lv_ldc (v := (-10000005)) hx hb hown (hts (.constant RX10 25 (-10000005)) (by decide +kernel)) dX10_fuelFault_41 ?_
        refine lv_icmp_eq (tgt := 51) hx hb dX10_fuelFault_43 (by decide) (fun c_7 => ?_) (fun c_7 => ?_)
        · refine lv_aload_n hx hb dX10_fuelFault_51 rfl (lv_at hl 0 rfl) ?_
          refine va_get (D := D) (ci := 10) (v := .ref h1) (C := RX10) (T := TX10) (N := 16) hx hb hts iX10_fuelFault_X10 hown hK hP 0 rfl rfl 0 (by decide) (hts (.fieldLink RX10 7 "BarnPicturesModel" "s" "[I") (by decide +kernel)) (fun _ h9 => h9) rfl dX10_fuelFault_52 ?_
          refine lv_bipush (v := 50) hx hb dX10_fuelFault_55 (by decide) ?_
          refine lv_iconst (v := 2) hx hb dX10_fuelFault_57 (by decide) ?_
          refine lv_iload_n hx hb dX10_fuelFault_58 rfl (lv_at hl 1 rfl) ?_
          refine lv_imul hx hb dX10_fuelFault_59 ?_
          refine lv_iadd hx hb dX10_fuelFault_60 ?_
          refine lv_iconst (v := 1) hx hb dX10_fuelFault_61 (by decide) ?_
          refine lv_iadd hx hb dX10_fuelFault_62 ?_
          refine iald_k hx hb hK hP 1 rfl ((50 + (2 * x.toNatClampNeg)) + 1) (ix_of (nadd (nadd (nlit 50) (nmul (nlit 2) en_k_3)) (nlit 1)) (by omega) (by decide)) dX10_fuelFault_63 ?_
          refine lv_iload_n hx hb dX10_fuelFault_64 rfl (lv_at hl 2 rfl) ?_
          refine lv_iadd hx hb dX10_fuelFault_65 ?_
          refine lv_sipush (v := 500) hx hb dX10_fuelFault_66 (by decide) ?_
          refine lv_icmp_le (tgt := 77) hx hb dX10_fuelFault_69 (by decide) (fun c_8 => ?_) (fun c_8 => ?_)
          · refine lv_iconst (v := 0) hx hb dX10_fuelFault_77 (by decide) ?_
            subst hQ
            exact ret_i () hx hb hr hK hP hD hS rfl (by unfold f_X10_fuelFault; rw [if_neg c_2, if_neg c_5, if_pos c_6, if_pos c_7, if_pos c_8]; try rfl) dX10_fuelFault_78 hlocks
          · refine lv_ldc (v := (-10000003)) hx hb hown (hts (.constant RX10 49 (-10000003)) (by decide +kernel)) dX10_fuelFault_72 ?_
            refine lv_goto (tgt := 78) hx hb dX10_fuelFault_74 (by decide) ?_
            subst hQ
            exact ret_i () hx hb hr hK hP hD hS rfl (by unfold f_X10_fuelFault; rw [if_neg c_2, if_neg c_5, if_pos c_6, if_pos c_7, if_neg c_8]; try rfl) dX10_fuelFault_78 hlocks
        · refine lv_ldc (v := (-10000004)) hx hb hown (hts (.constant RX10 44 (-10000004)) (by decide +kernel)) dX10_fuelFault_46 ?_
          refine lv_goto (tgt := 78) hx hb dX10_fuelFault_48 (by decide) ?_
          subst hQ
          exact ret_i () hx hb hr hK hP hD hS rfl (by unfold f_X10_fuelFault; rw [if_neg c_2, if_neg c_5, if_pos c_6, if_neg c_7]; try rfl) dX10_fuelFault_78 hlocks
      · refine lv_ldc (v := (-10000002)) hx hb hown (hts (.constant RX10 59 (-10000002)) (by decide +kernel)) dX10_fuelFault_27 ?_
        subst hQ
        exact ret_i () hx hb hr hK hP hD hS rfl (by unfold f_X10_fuelFault; rw [if_neg c_2, if_neg c_5, if_neg c_6]; try rfl) dX10_fuelFault_29 hlocks
  · refine lv_ldc (v := (-10000001)) hx hb hown (hts (.constant RX10 58 (-10000001)) (by decide +kernel)) dX10_fuelFault_7 ?_
    subst hQ
    exact ret_i () hx hb hr hK hP hD hS rfl (by unfold f_X10_fuelFault; rw [if_pos c_2]; try rfl) dX10_fuelFault_9 hlocks

theorem iX10_fuels_X10 : ∀ w ∈ wsX100, w ∈ wsX10_fuels := by decide +kernel
def f_X10_fuels (s : (Nat → Int32)) (x : Int32) (xn : Nat) (y : Int32) : Int32 × (Nat → Int32) := (((s ((50 + (2 * xn)) + 1)) + y), (upd (upd s 73 ((s 73) + (y / 5))) ((50 + (2 * xn)) + 1) ((s ((50 + (2 * xn)) + 1)) + y)))
set_option maxRecDepth 100000 in
set_option maxHeartbeats 1000000 in
theorem c_X10_fuels (l : Launch) (D : va_G) (z : ClassId × ClassId × ClassId) (h h1 h2 h3 h4 h5 : Nat) (v : MV) (x : Int32) (xn : Nat) (ee_x : x = nI xn) (bb_x : xn < 2) (y : Int32) (sz : Nat) : CI l yX10_fuels wsX10_fuels 0 0 0 0 [.ref h, .int x, .int y] D z (wX10 z h h1 h2 h3 h4 h5 v) sz (E0) (fun (zr : Int32) (zu : (Nat → Int32)) => (zr, zu) = f_X10_fuels v.1 x xn y) (fun zu => wX10 z h h1 h2 h3 h4 h5 (zu, v.2.1, v.2.2.1, v.2.2.2.1, v.2.2.2.2.1, v.2.2.2.2.2.1, v.2.2.2.2.2.2.1, v.2.2.2.2.2.2.2.1, v.2.2.2.2.2.2.2.2.1, v.2.2.2.2.2.2.2.2.2.1, v.2.2.2.2.2.2.2.2.2.2.1, v.2.2.2.2.2.2.2.2.2.2.2.1, v.2.2.2.2.2.2.2.2.2.2.2.2.1, v.2.2.2.2.2.2.2.2.2.2.2.2.2.1, v.2.2.2.2.2.2.2.2.2.2.2.2.2.2.1, v.2.2.2.2.2.2.2.2.2.2.2.2.2.2.2)) := by
  refine met_i cX10_fuels 3 (some .int) (by decide) rfl (Nat.le_of_ble_eq_true rfl) ?_
  intro p e s m args below meth c R Q hx hb hr hml hts hown hlocks hin hRf hRl hRc hRs hc0 hs0 A H hA hP hK hD hS hE hQ ls hl
  have hl : lv_has ls 3 [(0, .ref h), (1, .int x), (2, .int y)] := hl
  have hP : va_P D vwCl [(h, .inr (10, [.ref h1, .ref h2, .ref h3, .int v.2.2.2.1, .ref h4, .int v.2.2.2.2.2.1, .ref h5, .int v.2.2.2.2.2.2.2.1, .int v.2.2.2.2.2.2.2.2.1, .int v.2.2.2.2.2.2.2.2.2.1, .int v.2.2.2.2.2.2.2.2.2.2.1, .int v.2.2.2.2.2.2.2.2.2.2.2.1, .int v.2.2.2.2.2.2.2.2.2.2.2.2.1, .int v.2.2.2.2.2.2.2.2.2.2.2.2.2.1, .int v.2.2.2.2.2.2.2.2.2.2.2.2.2.2.1, .int v.2.2.2.2.2.2.2.2.2.2.2.2.2.2.2])), (h1, .inl (z.1, 108, .inl v.1)), (h2, .inl (z.1, 108, .inl v.2.1)), (h3, .inl (z.1, 432, .inl v.2.2.1)), (h4, .inl (z.1, 108, .inl v.2.2.2.2.1)), (h5, .inl (z.1, 80, .inl v.2.2.2.2.2.2.1))] H := hP
  have hD : va_D A [(h, .inr (10, [.ref h1, .ref h2, .ref h3, .int v.2.2.2.1, .ref h4, .int v.2.2.2.2.2.1, .ref h5, .int v.2.2.2.2.2.2.2.1, .int v.2.2.2.2.2.2.2.2.1, .int v.2.2.2.2.2.2.2.2.2.1, .int v.2.2.2.2.2.2.2.2.2.2.1, .int v.2.2.2.2.2.2.2.2.2.2.2.1, .int v.2.2.2.2.2.2.2.2.2.2.2.2.1, .int v.2.2.2.2.2.2.2.2.2.2.2.2.2.1, .int v.2.2.2.2.2.2.2.2.2.2.2.2.2.2.1, .int v.2.2.2.2.2.2.2.2.2.2.2.2.2.2.2])), (h1, .inl (z.1, 108, .inl v.1)), (h2, .inl (z.1, 108, .inl v.2.1)), (h3, .inl (z.1, 432, .inl v.2.2.1)), (h4, .inl (z.1, 108, .inl v.2.2.2.2.1)), (h5, .inl (z.1, 80, .inl v.2.2.2.2.2.2.1))] := hD
  have hown : s.vm.findClass RX10 = some m.cls := hown
  refine lv_aload_n hx hb dX10_fuels_0 rfl (lv_at hl 0 rfl) ?_
  refine va_get (D := D) (ci := 10) (v := .ref h1) (C := RX10) (T := TX10) (N := 16) hx hb hts iX10_fuels_X10 hown hK hP 0 rfl rfl 0 (by decide) (hts (.fieldLink RX10 7 "BarnPicturesModel" "s" "[I") (by decide +kernel)) (fun _ h9 => h9) rfl dX10_fuels_1 ?_
  refine lv_bipush (v := 73) hx hb dX10_fuels_4 (by decide) ?_
  refine lv_dup2_11 hx hb dX10_fuels_6 rfl rfl ?_
  refine iald_k hx hb hK hP 1 rfl 73 (ix_of (nlit 73) (by omega) (by decide)) dX10_fuels_7 ?_
  refine lv_iload_n hx hb dX10_fuels_8 rfl (lv_at hl 2 rfl) ?_
  refine lv_iconst (v := 5) hx hb dX10_fuels_9 (by decide) ?_
  refine lv_idiv hx hb dX10_fuels_10 (by decide) ?_
  refine lv_iadd hx hb dX10_fuels_11 ?_
  refine iast_k hx hb hK hP hD hS 1 rfl 73 (ix_of (nlit 73) (by omega) (by decide)) dX10_fuels_12 (fun H locs hP hD hS => ?_)
  have hP : va_P D vwCl [(h, .inr (10, [.ref h1, .ref h2, .ref h3, .int v.2.2.2.1, .ref h4, .int v.2.2.2.2.2.1, .ref h5, .int v.2.2.2.2.2.2.2.1, .int v.2.2.2.2.2.2.2.2.1, .int v.2.2.2.2.2.2.2.2.2.1, .int v.2.2.2.2.2.2.2.2.2.2.1, .int v.2.2.2.2.2.2.2.2.2.2.2.1, .int v.2.2.2.2.2.2.2.2.2.2.2.2.1, .int v.2.2.2.2.2.2.2.2.2.2.2.2.2.1, .int v.2.2.2.2.2.2.2.2.2.2.2.2.2.2.1, .int v.2.2.2.2.2.2.2.2.2.2.2.2.2.2.2])), (h1, .inl (z.1, 108, .inl (upd v.1 73 ((v.1 73) + (y / 5))))), (h2, .inl (z.1, 108, .inl v.2.1)), (h3, .inl (z.1, 432, .inl v.2.2.1)), (h4, .inl (z.1, 108, .inl v.2.2.2.2.1)), (h5, .inl (z.1, 80, .inl v.2.2.2.2.2.2.1))] H := hP
  have hD : va_D A [(h, .inr (10, [.ref h1, .ref h2, .ref h3, .int v.2.2.2.1, .ref h4, .int v.2.2.2.2.2.1, .ref h5, .int v.2.2.2.2.2.2.2.1, .int v.2.2.2.2.2.2.2.2.1, .int v.2.2.2.2.2.2.2.2.2.1, .int v.2.2.2.2.2.2.2.2.2.2.1, .int v.2.2.2.2.2.2.2.2.2.2.2.1, .int v.2.2.2.2.2.2.2.2.2.2.2.2.1, .int v.2.2.2.2.2.2.2.2.2.2.2.2.2.1, .int v.2.2.2.2.2.2.2.2.2.2.2.2.2.2.1, .int v.2.2.2.2.2.2.2.2.2.2.2.2.2.2.2])), (h1, .inl (z.1, 108, .inl (upd v.1 73 ((v.1 73) + (y / 5))))), (h2, .inl (z.1, 108, .inl v.2.1)), (h3, .inl (z.1, 432, .inl v.2.2.1)), (h4, .inl (z.1, 108, .inl v.2.2.2.2.1)), (h5, .inl (z.1, 80, .inl v.2.2.2.2.2.2.1))] := hD
  refine lv_aload_n hx hb dX10_fuels_13 rfl (lv_at hl 0 rfl) ?_
  refine va_get (D := D) (ci := 10) (v := .ref h1) (C := RX10) (T := TX10) (N := 16) hx hb hts iX10_fuels_X10 hown hK hP 0 rfl rfl 0 (by decide) (hts (.fieldLink RX10 7 "BarnPicturesModel" "s" "[I") (by decide +kernel)) (fun _ h9 => h9) rfl dX10_fuels_14 ?_
  refine lv_bipush (v := 50) hx hb dX10_fuels_17 (by decide) ?_
  refine lv_iconst (v := 2) hx hb dX10_fuels_19 (by decide) ?_
  refine lv_iload_n hx hb dX10_fuels_20 rfl (lv_at hl 1 rfl) ?_
  refine lv_imul hx hb dX10_fuels_21 ?_
  refine lv_iadd hx hb dX10_fuels_22 ?_
  refine lv_iconst (v := 1) hx hb dX10_fuels_23 (by decide) ?_
  refine lv_iadd hx hb dX10_fuels_24 ?_
  refine lv_dup2_11 hx hb dX10_fuels_25 rfl rfl ?_
  refine iald_e hx hb hK hP 1 rfl ((50 + (2 * xn)) + 1) (x := (v.1 ((50 + (2 * xn)) + 1))) (pk_un (by omega)) (ix_of (nadd (nadd (nlit 50) (nmul (nlit 2) ee_x)) (nlit 1)) (by omega) (by decide)) dX10_fuels_26 ?_
  refine lv_iload_n hx hb dX10_fuels_27 rfl (lv_at hl 2 rfl) ?_
  refine lv_iadd hx hb dX10_fuels_28 ?_
  refine iast_k hx hb hK hP hD hS 1 rfl ((50 + (2 * xn)) + 1) (ix_of (nadd (nadd (nlit 50) (nmul (nlit 2) ee_x)) (nlit 1)) (by omega) (by decide)) dX10_fuels_29 (fun H locs hP hD hS => ?_)
  have hP : va_P D vwCl [(h, .inr (10, [.ref h1, .ref h2, .ref h3, .int v.2.2.2.1, .ref h4, .int v.2.2.2.2.2.1, .ref h5, .int v.2.2.2.2.2.2.2.1, .int v.2.2.2.2.2.2.2.2.1, .int v.2.2.2.2.2.2.2.2.2.1, .int v.2.2.2.2.2.2.2.2.2.2.1, .int v.2.2.2.2.2.2.2.2.2.2.2.1, .int v.2.2.2.2.2.2.2.2.2.2.2.2.1, .int v.2.2.2.2.2.2.2.2.2.2.2.2.2.1, .int v.2.2.2.2.2.2.2.2.2.2.2.2.2.2.1, .int v.2.2.2.2.2.2.2.2.2.2.2.2.2.2.2])), (h1, .inl (z.1, 108, .inl (upd (upd v.1 73 ((v.1 73) + (y / 5))) ((50 + (2 * xn)) + 1) ((v.1 ((50 + (2 * xn)) + 1)) + y)))), (h2, .inl (z.1, 108, .inl v.2.1)), (h3, .inl (z.1, 432, .inl v.2.2.1)), (h4, .inl (z.1, 108, .inl v.2.2.2.2.1)), (h5, .inl (z.1, 80, .inl v.2.2.2.2.2.2.1))] H := hP
  have hD : va_D A [(h, .inr (10, [.ref h1, .ref h2, .ref h3, .int v.2.2.2.1, .ref h4, .int v.2.2.2.2.2.1, .ref h5, .int v.2.2.2.2.2.2.2.1, .int v.2.2.2.2.2.2.2.2.1, .int v.2.2.2.2.2.2.2.2.2.1, .int v.2.2.2.2.2.2.2.2.2.2.1, .int v.2.2.2.2.2.2.2.2.2.2.2.1, .int v.2.2.2.2.2.2.2.2.2.2.2.2.1, .int v.2.2.2.2.2.2.2.2.2.2.2.2.2.1, .int v.2.2.2.2.2.2.2.2.2.2.2.2.2.2.1, .int v.2.2.2.2.2.2.2.2.2.2.2.2.2.2.2])), (h1, .inl (z.1, 108, .inl (upd (upd v.1 73 ((v.1 73) + (y / 5))) ((50 + (2 * xn)) + 1) ((v.1 ((50 + (2 * xn)) + 1)) + y)))), (h2, .inl (z.1, 108, .inl v.2.1)), (h3, .inl (z.1, 432, .inl v.2.2.1)), (h4, .inl (z.1, 108, .inl v.2.2.2.2.1)), (h5, .inl (z.1, 80, .inl v.2.2.2.2.2.2.1))] := hD
  refine lv_aload_n hx hb dX10_fuels_30 rfl (lv_at hl 0 rfl) ?_
  refine va_get (D := D) (ci := 10) (v := .ref h1) (C := RX10) (T := TX10) (N := 16) hx hb hts iX10_fuels_X10 hown hK hP 0 rfl rfl 0 (by decide) (hts (.fieldLink RX10 7 "BarnPicturesModel" "s" "[I") (by decide +kernel)) (fun _ h9 => h9) rfl dX10_fuels_31 ?_
  refine lv_bipush (v := 50) hx hb dX10_fuels_34 (by decide) ?_
  refine lv_iconst (v := 2) hx hb dX10_fuels_36 (by decide) ?_
  refine lv_iload_n hx hb dX10_fuels_37 rfl (lv_at hl 1 rfl) ?_
  refine lv_imul hx hb dX10_fuels_38 ?_
  refine lv_iadd hx hb dX10_fuels_39 ?_
  refine lv_iconst (v := 1) hx hb dX10_fuels_40 (by decide) ?_
  refine lv_iadd hx hb dX10_fuels_41 ?_
  refine iald_e hx hb hK hP 1 rfl ((50 + (2 * xn)) + 1) (x := ((v.1 ((50 + (2 * xn)) + 1)) + y)) pk_us (ix_of (nadd (nadd (nlit 50) (nmul (nlit 2) ee_x)) (nlit 1)) (by omega) (by decide)) dX10_fuels_42 ?_
  subst hQ
  exact ret_i (upd (upd v.1 73 ((v.1 73) + (y / 5))) ((50 + (2 * xn)) + 1) ((v.1 ((50 + (2 * xn)) + 1)) + y)) hx hb hr hK hP hD hS rfl rfl dX10_fuels_43 hlocks

theorem iX10_reels_X10 : ∀ w ∈ wsX100, w ∈ wsX10_reels := by decide +kernel
def f_X10_reels_5_x (s : (Nat → Int32)) (x : Int32) (y : Int32) (q5 : Int32) : Int32 := q5
def st_X10_reels_5 (s : (Nat → Int32)) (x : Int32) (y : Int32) (k5 : Nat) (q5 : Int32) : Int32 := if (s (5 * k5 + 0)) = x then if (((s (5 * k5 + 4)) >>> (x &&& 31)) &&& 1) = 0 then if y = 0 then (q5 + 1) else if y = 1 then (q5 + (s (5 * k5 + 1))) else if y = 2 then if (s (5 * k5 + 2)) ≤ q5 then q5 else (s (5 * k5 + 2)) else (q5 + 1) else if y = 0 then (q5 + 1) else if y = 1 then (q5 + (s (5 * k5 + 1))) else if y = 2 then if (s (5 * k5 + 2)) ≤ q5 then q5 else (s (5 * k5 + 2)) else q5 else if (((s (5 * k5 + 4)) >>> (x &&& 31)) &&& 1) = 0 then q5 else q5
def lp_X10_reels_5 (s : (Nat → Int32)) (x : Int32) (y : Int32) (i0 : Int32) : Nat → Int32
  | 0 => i0
  | k + 1 => st_X10_reels_5 s x y k (lp_X10_reels_5 s x y i0 k)
theorem lp_X10_reels_5_0 (s : (Nat → Int32)) (x : Int32) (y : Int32) (i0 : Int32) : lp_X10_reels_5 s x y i0 0 = i0 := rfl
theorem lp_X10_reels_5_s (s : (Nat → Int32)) (x : Int32) (y : Int32) (i0 : Int32) (k : Nat) : lp_X10_reels_5 s x y i0 (k + 1) = st_X10_reels_5 s x y k (lp_X10_reels_5 s x y i0 k) := rfl
def f_X10_reels (s : (Nat → Int32)) (x : Int32) (y : Int32) : Int32 := f_X10_reels_5_x s x y (lp_X10_reels_5 s x y 0 10)
set_option maxRecDepth 100000 in
set_option maxHeartbeats 1000000 in
theorem c_X10_reels (l : Launch) (D : va_G) (z : ClassId × ClassId × ClassId) (h h1 h2 h3 h4 h5 : Nat) (v : MV) (x : Int32) (y : Int32) (sz : Nat) : CI l yX10_reels wsX10_reels 1 21 0 0 [.ref h, .int x, .int y] D z (wX10 z h h1 h2 h3 h4 h5 v) sz (E0) (fun (zr : Int32) (_ : Unit) => zr = f_X10_reels v.1 x y) (fun _ => wX10 z h h1 h2 h3 h4 h5 v) := by
  refine met_i cX10_reels 8 (some .int) (by decide) rfl (Nat.le_of_ble_eq_true rfl) ?_
  intro p e s m args below meth c R Q hx hb hr hml hts hown hlocks hin hRf hRl hRc hRs hc0 hs0 A H hA hP hK hD hS hE hQ ls hl
  have hl : lv_has ls 8 [(0, .ref h), (1, .int x), (2, .int y)] := hl
  have hP : va_P D vwCl [(h, .inr (10, [.ref h1, .ref h2, .ref h3, .int v.2.2.2.1, .ref h4, .int v.2.2.2.2.2.1, .ref h5, .int v.2.2.2.2.2.2.2.1, .int v.2.2.2.2.2.2.2.2.1, .int v.2.2.2.2.2.2.2.2.2.1, .int v.2.2.2.2.2.2.2.2.2.2.1, .int v.2.2.2.2.2.2.2.2.2.2.2.1, .int v.2.2.2.2.2.2.2.2.2.2.2.2.1, .int v.2.2.2.2.2.2.2.2.2.2.2.2.2.1, .int v.2.2.2.2.2.2.2.2.2.2.2.2.2.2.1, .int v.2.2.2.2.2.2.2.2.2.2.2.2.2.2.2])), (h1, .inl (z.1, 108, .inl v.1)), (h2, .inl (z.1, 108, .inl v.2.1)), (h3, .inl (z.1, 432, .inl v.2.2.1)), (h4, .inl (z.1, 108, .inl v.2.2.2.2.1)), (h5, .inl (z.1, 80, .inl v.2.2.2.2.2.2.1))] H := hP
  have hD : va_D A [(h, .inr (10, [.ref h1, .ref h2, .ref h3, .int v.2.2.2.1, .ref h4, .int v.2.2.2.2.2.1, .ref h5, .int v.2.2.2.2.2.2.2.1, .int v.2.2.2.2.2.2.2.2.1, .int v.2.2.2.2.2.2.2.2.2.1, .int v.2.2.2.2.2.2.2.2.2.2.1, .int v.2.2.2.2.2.2.2.2.2.2.2.1, .int v.2.2.2.2.2.2.2.2.2.2.2.2.1, .int v.2.2.2.2.2.2.2.2.2.2.2.2.2.1, .int v.2.2.2.2.2.2.2.2.2.2.2.2.2.2.1, .int v.2.2.2.2.2.2.2.2.2.2.2.2.2.2.2])), (h1, .inl (z.1, 108, .inl v.1)), (h2, .inl (z.1, 108, .inl v.2.1)), (h3, .inl (z.1, 432, .inl v.2.2.1)), (h4, .inl (z.1, 108, .inl v.2.2.2.2.1)), (h5, .inl (z.1, 80, .inl v.2.2.2.2.2.2.1))] := hD
  have hown : s.vm.findClass RX10 = some m.cls := hown
  refine lv_iconst (v := 0) hx hb dX10_reels_0 (by decide) ?_
  refine lv_istore_n (lv' := [(3, .int 0), (0, .ref h), (1, .int x), (2, .int y)]) hx hb dX10_reels_1 rfl hl (by decide) rfl (fun ls hl => ?_)
  refine lv_iconst (v := 0) hx hb dX10_reels_2 (by decide) ?_
  refine lv_istore (lv' := [(4, .int 0), (3, .int 0), (0, .ref h), (1, .int x), (2, .int y)]) hx hb dX10_reels_3 hl (by decide) rfl (fun ls hl => ?_)
  have L5 : ∀ (n5 k5 : Nat) (q5 : Int32), q5 = lp_X10_reels_5 v.1 x y 0 k5 → k5 ≤ 10 → 10 + 1 ≤ k5 + n5 → ∀ (H : Heap) (locs : List Loc) (ls : Array Slot), va_P D vwCl [(h, .inr (10, [.ref h1, .ref h2, .ref h3, .int v.2.2.2.1, .ref h4, .int v.2.2.2.2.2.1, .ref h5, .int v.2.2.2.2.2.2.2.1, .int v.2.2.2.2.2.2.2.2.1, .int v.2.2.2.2.2.2.2.2.2.1, .int v.2.2.2.2.2.2.2.2.2.2.1, .int v.2.2.2.2.2.2.2.2.2.2.2.1, .int v.2.2.2.2.2.2.2.2.2.2.2.2.1, .int v.2.2.2.2.2.2.2.2.2.2.2.2.2.1, .int v.2.2.2.2.2.2.2.2.2.2.2.2.2.2.1, .int v.2.2.2.2.2.2.2.2.2.2.2.2.2.2.2])), (h1, .inl (z.1, 108, .inl v.1)), (h2, .inl (z.1, 108, .inl v.2.1)), (h3, .inl (z.1, 432, .inl v.2.2.1)), (h4, .inl (z.1, 108, .inl v.2.2.2.2.1)), (h5, .inl (z.1, 80, .inl v.2.2.2.2.2.2.1))] H → va_D A [(h, .inr (10, [.ref h1, .ref h2, .ref h3, .int v.2.2.2.1, .ref h4, .int v.2.2.2.2.2.1, .ref h5, .int v.2.2.2.2.2.2.2.1, .int v.2.2.2.2.2.2.2.2.1, .int v.2.2.2.2.2.2.2.2.2.1, .int v.2.2.2.2.2.2.2.2.2.2.1, .int v.2.2.2.2.2.2.2.2.2.2.2.1, .int v.2.2.2.2.2.2.2.2.2.2.2.2.1, .int v.2.2.2.2.2.2.2.2.2.2.2.2.2.1, .int v.2.2.2.2.2.2.2.2.2.2.2.2.2.2.1, .int v.2.2.2.2.2.2.2.2.2.2.2.2.2.2.2])), (h1, .inl (z.1, 108, .inl v.1)), (h2, .inl (z.1, 108, .inl v.2.1)), (h3, .inl (z.1, 432, .inl v.2.2.1)), (h4, .inl (z.1, 108, .inl v.2.2.2.2.1)), (h5, .inl (z.1, 80, .inl v.2.2.2.2.2.2.1))] → va_S A s.heap H locs → lv_has ls 8 [(4, .int (nI k5)), (3, .int q5), (0, .ref h), (1, .int x), (2, .int y)] → W p l e R s m args below meth c H locs 0 0 Q (F0 m 5 ls []) := by
    intro n5
    induction n5 with
    | zero => intro k5 q5 hq5 h1 h2; exact absurd h2 (by omega)
    | succ n5 ih5 =>
      intro k5 q5 hq5 hk5 hn5 H locs ls hP hD hS hl
      refine lv_iload hx hb dX10_reels_5 (lv_at hl 0 rfl) ?_
      refine lv_bipush (v := 10) hx hb dX10_reels_7 (by decide) ?_
      rcases Nat.lt_or_ge k5 10 with hlt | hge
      · refine lv_icmp_ge (tgt := 151) hx hb dX10_reels_9 (by decide) (fun c_2 => absurd c_2 (nI_ge (a := k5) (b := 10) (by omega) (by omega))) (fun c_2 => ?_)
        refine lv_aload_n hx hb dX10_reels_12 rfl (lv_at hl 2 rfl) ?_
        refine va_get (D := D) (ci := 10) (v := .ref h1) (C := RX10) (T := TX10) (N := 16) hx hb hts iX10_reels_X10 hown hK hP 0 rfl rfl 0 (by decide) (hts (.fieldLink RX10 7 "BarnPicturesModel" "s" "[I") (by decide +kernel)) (fun _ h9 => h9) rfl dX10_reels_13 ?_
        refine lv_iload hx hb dX10_reels_16 (lv_at hl 0 rfl) ?_
        refine lv_iconst (v := 0) hx hb dX10_reels_18 (by decide) ?_
        refine call_i [(h, .inr (10, [.ref h1, .ref h2, .ref h3, .int v.2.2.2.1, .ref h4, .int v.2.2.2.2.2.1, .ref h5, .int v.2.2.2.2.2.2.2.1, .int v.2.2.2.2.2.2.2.2.1, .int v.2.2.2.2.2.2.2.2.2.1, .int v.2.2.2.2.2.2.2.2.2.2.1, .int v.2.2.2.2.2.2.2.2.2.2.2.1, .int v.2.2.2.2.2.2.2.2.2.2.2.2.1, .int v.2.2.2.2.2.2.2.2.2.2.2.2.2.1, .int v.2.2.2.2.2.2.2.2.2.2.2.2.2.2.1, .int v.2.2.2.2.2.2.2.2.2.2.2.2.2.2.2])), (h1, .inl (z.1, 108, .inl v.1)), (h2, .inl (z.1, 108, .inl v.2.1)), (h3, .inl (z.1, 432, .inl v.2.2.1)), (h4, .inl (z.1, 108, .inl v.2.2.2.2.1)), (h5, .inl (z.1, 80, .inl v.2.2.2.2.2.2.1))] (fun _ => [(h, .inr (10, [.ref h1, .ref h2, .ref h3, .int v.2.2.2.1, .ref h4, .int v.2.2.2.2.2.1, .ref h5, .int v.2.2.2.2.2.2.2.1, .int v.2.2.2.2.2.2.2.2.1, .int v.2.2.2.2.2.2.2.2.2.1, .int v.2.2.2.2.2.2.2.2.2.2.1, .int v.2.2.2.2.2.2.2.2.2.2.2.1, .int v.2.2.2.2.2.2.2.2.2.2.2.2.1, .int v.2.2.2.2.2.2.2.2.2.2.2.2.2.1, .int v.2.2.2.2.2.2.2.2.2.2.2.2.2.2.1, .int v.2.2.2.2.2.2.2.2.2.2.2.2.2.2.2])), (h1, .inl (z.1, 108, .inl v.1)), (h2, .inl (z.1, 108, .inl v.2.1)), (h3, .inl (z.1, 432, .inl v.2.2.1)), (h4, .inl (z.1, 108, .inl v.2.2.2.2.1)), (h5, .inl (z.1, 80, .inl v.2.2.2.2.2.2.1))]) (rS (As := [.int (nI k5), .int 0]) (rest := [.ref h1]) ⟨hx, hb, hml, hown, hts⟩ (c_X10_of l D z (nI k5) 0 H.size) (va_cwS 2 hts gX10_reels_X10_of rfl rfl rfl (by decide +kernel) ⟨Nat.le_trans (by decide) hRf, Nat.le_trans (by decide) hRl⟩) e0_ok e_0 hK hP hD [] (by decide) rfl rfl hl.1 rfl (Nat.le_of_ble_eq_true rfl) dX10_reels_19 ⟨Nat.zero_le _, Nat.zero_le _⟩) hK hP hD hS hA [] [0, 1, 2, 3, 4, 5] [0, 1, 2, 3, 4, 5] rfl rfl (by decide) (by decide) (by decide) (fun _ => rfl) (fun zr zu H locs hw hP hD hS => ?_)
        subst hw
        have hP : va_P D vwCl [(h, .inr (10, [.ref h1, .ref h2, .ref h3, .int v.2.2.2.1, .ref h4, .int v.2.2.2.2.2.1, .ref h5, .int v.2.2.2.2.2.2.2.1, .int v.2.2.2.2.2.2.2.2.1, .int v.2.2.2.2.2.2.2.2.2.1, .int v.2.2.2.2.2.2.2.2.2.2.1, .int v.2.2.2.2.2.2.2.2.2.2.2.1, .int v.2.2.2.2.2.2.2.2.2.2.2.2.1, .int v.2.2.2.2.2.2.2.2.2.2.2.2.2.1, .int v.2.2.2.2.2.2.2.2.2.2.2.2.2.2.1, .int v.2.2.2.2.2.2.2.2.2.2.2.2.2.2.2])), (h1, .inl (z.1, 108, .inl v.1)), (h2, .inl (z.1, 108, .inl v.2.1)), (h3, .inl (z.1, 432, .inl v.2.2.1)), (h4, .inl (z.1, 108, .inl v.2.2.2.2.1)), (h5, .inl (z.1, 80, .inl v.2.2.2.2.2.2.1))] H := hP
        have hD : va_D A [(h, .inr (10, [.ref h1, .ref h2, .ref h3, .int v.2.2.2.1, .ref h4, .int v.2.2.2.2.2.1, .ref h5, .int v.2.2.2.2.2.2.2.1, .int v.2.2.2.2.2.2.2.2.1, .int v.2.2.2.2.2.2.2.2.2.1, .int v.2.2.2.2.2.2.2.2.2.2.1, .int v.2.2.2.2.2.2.2.2.2.2.2.1, .int v.2.2.2.2.2.2.2.2.2.2.2.2.1, .int v.2.2.2.2.2.2.2.2.2.2.2.2.2.1, .int v.2.2.2.2.2.2.2.2.2.2.2.2.2.2.1, .int v.2.2.2.2.2.2.2.2.2.2.2.2.2.2.2])), (h1, .inl (z.1, 108, .inl v.1)), (h2, .inl (z.1, 108, .inl v.2.1)), (h3, .inl (z.1, 432, .inl v.2.2.1)), (h4, .inl (z.1, 108, .inl v.2.2.2.2.1)), (h5, .inl (z.1, 80, .inl v.2.2.2.2.2.2.1))] := hD
        refine iald_k hx hb hK hP 1 rfl (5 * k5 + 0) (ix_of (of_n (nrf k5) (nlit 0)) (by omega) (by decide)) dX10_reels_22 ?_
        refine lv_iload_n hx hb dX10_reels_23 rfl (lv_at hl 3 rfl) ?_
        refine lv_icmp_ne (tgt := 31) hx hb dX10_reels_24 (by decide) (fun c_3 => ?_) (fun c_3 => ?_)
        · refine lv_iconst (v := 0) hx hb dX10_reels_31 (by decide) ?_
          refine lv_istore (lv' := [(5, .int 0), (4, .int (nI k5)), (3, .int q5), (0, .ref h), (1, .int x), (2, .int y)]) hx hb dX10_reels_32 hl (by decide) rfl (fun ls hl => ?_)
          refine lv_aload_n hx hb dX10_reels_34 rfl (lv_at hl 3 rfl) ?_
          refine va_get (D := D) (ci := 10) (v := .ref h1) (C := RX10) (T := TX10) (N := 16) hx hb hts iX10_reels_X10 hown hK hP 0 rfl rfl 0 (by decide) (hts (.fieldLink RX10 7 "BarnPicturesModel" "s" "[I") (by decide +kernel)) (fun _ h9 => h9) rfl dX10_reels_35 ?_
          refine lv_iload hx hb dX10_reels_38 (lv_at hl 1 rfl) ?_
          refine lv_iconst (v := 2) hx hb dX10_reels_40 (by decide) ?_
          refine call_i [(h, .inr (10, [.ref h1, .ref h2, .ref h3, .int v.2.2.2.1, .ref h4, .int v.2.2.2.2.2.1, .ref h5, .int v.2.2.2.2.2.2.2.1, .int v.2.2.2.2.2.2.2.2.1, .int v.2.2.2.2.2.2.2.2.2.1, .int v.2.2.2.2.2.2.2.2.2.2.1, .int v.2.2.2.2.2.2.2.2.2.2.2.1, .int v.2.2.2.2.2.2.2.2.2.2.2.2.1, .int v.2.2.2.2.2.2.2.2.2.2.2.2.2.1, .int v.2.2.2.2.2.2.2.2.2.2.2.2.2.2.1, .int v.2.2.2.2.2.2.2.2.2.2.2.2.2.2.2])), (h1, .inl (z.1, 108, .inl v.1)), (h2, .inl (z.1, 108, .inl v.2.1)), (h3, .inl (z.1, 432, .inl v.2.2.1)), (h4, .inl (z.1, 108, .inl v.2.2.2.2.1)), (h5, .inl (z.1, 80, .inl v.2.2.2.2.2.2.1))] (fun _ => [(h, .inr (10, [.ref h1, .ref h2, .ref h3, .int v.2.2.2.1, .ref h4, .int v.2.2.2.2.2.1, .ref h5, .int v.2.2.2.2.2.2.2.1, .int v.2.2.2.2.2.2.2.2.1, .int v.2.2.2.2.2.2.2.2.2.1, .int v.2.2.2.2.2.2.2.2.2.2.1, .int v.2.2.2.2.2.2.2.2.2.2.2.1, .int v.2.2.2.2.2.2.2.2.2.2.2.2.1, .int v.2.2.2.2.2.2.2.2.2.2.2.2.2.1, .int v.2.2.2.2.2.2.2.2.2.2.2.2.2.2.1, .int v.2.2.2.2.2.2.2.2.2.2.2.2.2.2.2])), (h1, .inl (z.1, 108, .inl v.1)), (h2, .inl (z.1, 108, .inl v.2.1)), (h3, .inl (z.1, 432, .inl v.2.2.1)), (h4, .inl (z.1, 108, .inl v.2.2.2.2.1)), (h5, .inl (z.1, 80, .inl v.2.2.2.2.2.2.1))]) (rS (As := [.int (nI k5), .int 2]) (rest := [.ref h1]) ⟨hx, hb, hml, hown, hts⟩ (c_X10_of l D z (nI k5) 2 H.size) (va_cwS 2 hts gX10_reels_X10_of rfl rfl rfl (by decide +kernel) ⟨Nat.le_trans (by decide) hRf, Nat.le_trans (by decide) hRl⟩) e0_ok e_0 hK hP hD [] (by decide) rfl rfl hl.1 rfl (Nat.le_of_ble_eq_true rfl) dX10_reels_41 ⟨Nat.zero_le _, Nat.zero_le _⟩) hK hP hD hS hA [] [0, 1, 2, 3, 4, 5] [0, 1, 2, 3, 4, 5] rfl rfl (by decide) (by decide) (by decide) (fun _ => rfl) (fun zr zu H locs hw hP hD hS => ?_)
          subst hw
          have hP : va_P D vwCl [(h, .inr (10, [.ref h1, .ref h2, .ref h3, .int v.2.2.2.1, .ref h4, .int v.2.2.2.2.2.1, .ref h5, .int v.2.2.2.2.2.2.2.1, .int v.2.2.2.2.2.2.2.2.1, .int v.2.2.2.2.2.2.2.2.2.1, .int v.2.2.2.2.2.2.2.2.2.2.1, .int v.2.2.2.2.2.2.2.2.2.2.2.1, .int v.2.2.2.2.2.2.2.2.2.2.2.2.1, .int v.2.2.2.2.2.2.2.2.2.2.2.2.2.1, .int v.2.2.2.2.2.2.2.2.2.2.2.2.2.2.1, .int v.2.2.2.2.2.2.2.2.2.2.2.2.2.2.2])), (h1, .inl (z.1, 108, .inl v.1)), (h2, .inl (z.1, 108, .inl v.2.1)), (h3, .inl (z.1, 432, .inl v.2.2.1)), (h4, .inl (z.1, 108, .inl v.2.2.2.2.1)), (h5, .inl (z.1, 80, .inl v.2.2.2.2.2.2.1))] H := hP
          have hD : va_D A [(h, .inr (10, [.ref h1, .ref h2, .ref h3, .int v.2.2.2.1, .ref h4, .int v.2.2.2.2.2.1, .ref h5, .int v.2.2.2.2.2.2.2.1, .int v.2.2.2.2.2.2.2.2.1, .int v.2.2.2.2.2.2.2.2.2.1, .int v.2.2.2.2.2.2.2.2.2.2.1, .int v.2.2.2.2.2.2.2.2.2.2.2.1, .int v.2.2.2.2.2.2.2.2.2.2.2.2.1, .int v.2.2.2.2.2.2.2.2.2.2.2.2.2.1, .int v.2.2.2.2.2.2.2.2.2.2.2.2.2.2.1, .int v.2.2.2.2.2.2.2.2.2.2.2.2.2.2.2])), (h1, .inl (z.1, 108, .inl v.1)), (h2, .inl (z.1, 108, .inl v.2.1)), (h3, .inl (z.1, 432, .inl v.2.2.1)), (h4, .inl (z.1, 108, .inl v.2.2.2.2.1)), (h5, .inl (z.1, 80, .inl v.2.2.2.2.2.2.1))] := hD
          refine iald_k hx hb hK hP 1 rfl (5 * k5 + 2) (ix_of (of_n (nrf k5) (nlit 2)) (by omega) (by decide)) dX10_reels_44 ?_
          refine lv_istore (lv' := [(6, .int (v.1 (5 * k5 + 2))), (5, .int 0), (4, .int (nI k5)), (3, .int q5), (0, .ref h), (1, .int x), (2, .int y)]) hx hb dX10_reels_45 hl (by decide) rfl (fun ls hl => ?_)
          refine lv_aload_n hx hb dX10_reels_47 rfl (lv_at hl 4 rfl) ?_
          refine va_get (D := D) (ci := 10) (v := .ref h1) (C := RX10) (T := TX10) (N := 16) hx hb hts iX10_reels_X10 hown hK hP 0 rfl rfl 0 (by decide) (hts (.fieldLink RX10 7 "BarnPicturesModel" "s" "[I") (by decide +kernel)) (fun _ h9 => h9) rfl dX10_reels_48 ?_
          refine lv_iload hx hb dX10_reels_51 (lv_at hl 2 rfl) ?_
          refine lv_iconst (v := 4) hx hb dX10_reels_53 (by decide) ?_
          refine call_i [(h, .inr (10, [.ref h1, .ref h2, .ref h3, .int v.2.2.2.1, .ref h4, .int v.2.2.2.2.2.1, .ref h5, .int v.2.2.2.2.2.2.2.1, .int v.2.2.2.2.2.2.2.2.1, .int v.2.2.2.2.2.2.2.2.2.1, .int v.2.2.2.2.2.2.2.2.2.2.1, .int v.2.2.2.2.2.2.2.2.2.2.2.1, .int v.2.2.2.2.2.2.2.2.2.2.2.2.1, .int v.2.2.2.2.2.2.2.2.2.2.2.2.2.1, .int v.2.2.2.2.2.2.2.2.2.2.2.2.2.2.1, .int v.2.2.2.2.2.2.2.2.2.2.2.2.2.2.2])), (h1, .inl (z.1, 108, .inl v.1)), (h2, .inl (z.1, 108, .inl v.2.1)), (h3, .inl (z.1, 432, .inl v.2.2.1)), (h4, .inl (z.1, 108, .inl v.2.2.2.2.1)), (h5, .inl (z.1, 80, .inl v.2.2.2.2.2.2.1))] (fun _ => [(h, .inr (10, [.ref h1, .ref h2, .ref h3, .int v.2.2.2.1, .ref h4, .int v.2.2.2.2.2.1, .ref h5, .int v.2.2.2.2.2.2.2.1, .int v.2.2.2.2.2.2.2.2.1, .int v.2.2.2.2.2.2.2.2.2.1, .int v.2.2.2.2.2.2.2.2.2.2.1, .int v.2.2.2.2.2.2.2.2.2.2.2.1, .int v.2.2.2.2.2.2.2.2.2.2.2.2.1, .int v.2.2.2.2.2.2.2.2.2.2.2.2.2.1, .int v.2.2.2.2.2.2.2.2.2.2.2.2.2.2.1, .int v.2.2.2.2.2.2.2.2.2.2.2.2.2.2.2])), (h1, .inl (z.1, 108, .inl v.1)), (h2, .inl (z.1, 108, .inl v.2.1)), (h3, .inl (z.1, 432, .inl v.2.2.1)), (h4, .inl (z.1, 108, .inl v.2.2.2.2.1)), (h5, .inl (z.1, 80, .inl v.2.2.2.2.2.2.1))]) (rS (As := [.int (nI k5), .int 4]) (rest := [.ref h1]) ⟨hx, hb, hml, hown, hts⟩ (c_X10_of l D z (nI k5) 4 H.size) (va_cwS 2 hts gX10_reels_X10_of rfl rfl rfl (by decide +kernel) ⟨Nat.le_trans (by decide) hRf, Nat.le_trans (by decide) hRl⟩) e0_ok e_0 hK hP hD [] (by decide) rfl rfl hl.1 rfl (Nat.le_of_ble_eq_true rfl) dX10_reels_54 ⟨Nat.zero_le _, Nat.zero_le _⟩) hK hP hD hS hA [] [0, 1, 2, 3, 4, 5] [0, 1, 2, 3, 4, 5] rfl rfl (by decide) (by decide) (by decide) (fun _ => rfl) (fun zr zu H locs hw hP hD hS => ?_)
          subst hw
          have hP : va_P D vwCl [(h, .inr (10, [.ref h1, .ref h2, .ref h3, .int v.2.2.2.1, .ref h4, .int v.2.2.2.2.2.1, .ref h5, .int v.2.2.2.2.2.2.2.1, .int v.2.2.2.2.2.2.2.2.1, .int v.2.2.2.2.2.2.2.2.2.1, .int v.2.2.2.2.2.2.2.2.2.2.1, .int v.2.2.2.2.2.2.2.2.2.2.2.1, .int v.2.2.2.2.2.2.2.2.2.2.2.2.1, .int v.2.2.2.2.2.2.2.2.2.2.2.2.2.1, .int v.2.2.2.2.2.2.2.2.2.2.2.2.2.2.1, .int v.2.2.2.2.2.2.2.2.2.2.2.2.2.2.2])), (h1, .inl (z.1, 108, .inl v.1)), (h2, .inl (z.1, 108, .inl v.2.1)), (h3, .inl (z.1, 432, .inl v.2.2.1)), (h4, .inl (z.1, 108, .inl v.2.2.2.2.1)), (h5, .inl (z.1, 80, .inl v.2.2.2.2.2.2.1))] H := hP
          have hD : va_D A [(h, .inr (10, [.ref h1, .ref h2, .ref h3, .int v.2.2.2.1, .ref h4, .int v.2.2.2.2.2.1, .ref h5, .int v.2.2.2.2.2.2.2.1, .int v.2.2.2.2.2.2.2.2.1, .int v.2.2.2.2.2.2.2.2.2.1, .int v.2.2.2.2.2.2.2.2.2.2.1, .int v.2.2.2.2.2.2.2.2.2.2.2.1, .int v.2.2.2.2.2.2.2.2.2.2.2.2.1, .int v.2.2.2.2.2.2.2.2.2.2.2.2.2.1, .int v.2.2.2.2.2.2.2.2.2.2.2.2.2.2.1, .int v.2.2.2.2.2.2.2.2.2.2.2.2.2.2.2])), (h1, .inl (z.1, 108, .inl v.1)), (h2, .inl (z.1, 108, .inl v.2.1)), (h3, .inl (z.1, 432, .inl v.2.2.1)), (h4, .inl (z.1, 108, .inl v.2.2.2.2.1)), (h5, .inl (z.1, 80, .inl v.2.2.2.2.2.2.1))] := hD
          refine iald_k hx hb hK hP 1 rfl (5 * k5 + 4) (ix_of (of_n (nrf k5) (nlit 4)) (by omega) (by decide)) dX10_reels_57 ?_
          refine lv_iload_n hx hb dX10_reels_58 rfl (lv_at hl 5 rfl) ?_
          refine lv_ishr hx hb dX10_reels_59 ?_
          refine lv_iconst (v := 1) hx hb dX10_reels_60 (by decide) ?_
          refine lv_iand hx hb dX10_reels_61 ?_
          refine lv_if_ne (tgt := 69) hx hb dX10_reels_62 (by decide) (fun c_4 => ?_) (fun c_4 => ?_)
          · refine lv_iconst (v := 0) hx hb dX10_reels_69 (by decide) ?_
            refine lv_istore (lv' := [(7, .int 0), (6, .int (v.1 (5 * k5 + 2))), (5, .int 0), (4, .int (nI k5)), (3, .int q5), (0, .ref h), (1, .int x), (2, .int y)]) hx hb dX10_reels_70 hl (by decide) rfl (fun ls hl => ?_)
            refine lv_iload hx hb dX10_reels_72 (lv_at hl 2 rfl) ?_
            refine lv_if_ne (tgt := 81) hx hb dX10_reels_74 (by decide) (fun c_5 => absurd c_5 (by decide)) (fun c_5 => ?_)
            refine lv_iload_n hx hb dX10_reels_77 rfl (lv_at hl 4 rfl) ?_
            refine lv_goto (tgt := 144) hx hb dX10_reels_78 (by decide) ?_
            refine lv_istore_n (lv' := [(3, .int q5), (7, .int 0), (6, .int (v.1 (5 * k5 + 2))), (5, .int 0), (4, .int (nI k5)), (0, .ref h), (1, .int x), (2, .int y)]) hx hb dX10_reels_144 rfl hl (by decide) rfl (fun ls hl => ?_)
            refine lv_iinc (v := nI (k5 + 1)) (lv' := [(4, .int (nI (k5 + 1))), (3, .int q5), (7, .int 0), (6, .int (v.1 (5 * k5 + 2))), (5, .int 0), (0, .ref h), (1, .int x), (2, .int y)]) hx hb dX10_reels_145 hl (k := 4) rfl (nI_add k5 1) (by decide) rfl (fun ls hl => ?_)
            refine lv_goto (tgt := 5) hx hb dX10_reels_148 (by decide) ?_
            exact ih5 (k5 + 1) q5 (by rw [lp_X10_reels_5_s, ← hq5]; unfold st_X10_reels_5; rw [if_neg c_3, if_neg c_4]; try rfl) (by omega) (by omega) _ _ _ hP hD hS (lv_sub hl [0, 1, 5, 6, 7] rfl)
          · refine lv_iconst (v := 1) hx hb dX10_reels_65 (by decide) ?_
            refine lv_goto (tgt := 70) hx hb dX10_reels_66 (by decide) ?_
            refine lv_istore (lv' := [(7, .int 1), (6, .int (v.1 (5 * k5 + 2))), (5, .int 0), (4, .int (nI k5)), (3, .int q5), (0, .ref h), (1, .int x), (2, .int y)]) hx hb dX10_reels_70 hl (by decide) rfl (fun ls hl => ?_)
            refine lv_iload hx hb dX10_reels_72 (lv_at hl 2 rfl) ?_
            refine lv_if_ne (tgt := 81) hx hb dX10_reels_74 (by decide) (fun c_6 => absurd c_6 (by decide)) (fun c_6 => ?_)
            refine lv_iload_n hx hb dX10_reels_77 rfl (lv_at hl 4 rfl) ?_
            refine lv_goto (tgt := 144) hx hb dX10_reels_78 (by decide) ?_
            refine lv_istore_n (lv' := [(3, .int q5), (7, .int 1), (6, .int (v.1 (5 * k5 + 2))), (5, .int 0), (4, .int (nI k5)), (0, .ref h), (1, .int x), (2, .int y)]) hx hb dX10_reels_144 rfl hl (by decide) rfl (fun ls hl => ?_)
            refine lv_iinc (v := nI (k5 + 1)) (lv' := [(4, .int (nI (k5 + 1))), (3, .int q5), (7, .int 1), (6, .int (v.1 (5 * k5 + 2))), (5, .int 0), (0, .ref h), (1, .int x), (2, .int y)]) hx hb dX10_reels_145 hl (k := 4) rfl (nI_add k5 1) (by decide) rfl (fun ls hl => ?_)
            refine lv_goto (tgt := 5) hx hb dX10_reels_148 (by decide) ?_
            exact ih5 (k5 + 1) q5 (by rw [lp_X10_reels_5_s, ← hq5]; unfold st_X10_reels_5; rw [if_neg c_3, if_pos c_4]; try rfl) (by omega) (by omega) _ _ _ hP hD hS (lv_sub hl [0, 1, 5, 6, 7] rfl)
        · refine lv_iconst (v := 1) hx hb dX10_reels_27 (by decide) ?_
          refine lv_goto (tgt := 32) hx hb dX10_reels_28 (by decide) ?_
          refine lv_istore (lv' := [(5, .int 1), (4, .int (nI k5)), (3, .int q5), (0, .ref h), (1, .int x), (2, .int y)]) hx hb dX10_reels_32 hl (by decide) rfl (fun ls hl => ?_)
          refine lv_aload_n hx hb dX10_reels_34 rfl (lv_at hl 3 rfl) ?_
          refine va_get (D := D) (ci := 10) (v := .ref h1) (C := RX10) (T := TX10) (N := 16) hx hb hts iX10_reels_X10 hown hK hP 0 rfl rfl 0 (by decide) (hts (.fieldLink RX10 7 "BarnPicturesModel" "s" "[I") (by decide +kernel)) (fun _ h9 => h9) rfl dX10_reels_35 ?_
          refine lv_iload hx hb dX10_reels_38 (lv_at hl 1 rfl) ?_
          refine lv_iconst (v := 2) hx hb dX10_reels_40 (by decide) ?_
          refine call_i [(h, .inr (10, [.ref h1, .ref h2, .ref h3, .int v.2.2.2.1, .ref h4, .int v.2.2.2.2.2.1, .ref h5, .int v.2.2.2.2.2.2.2.1, .int v.2.2.2.2.2.2.2.2.1, .int v.2.2.2.2.2.2.2.2.2.1, .int v.2.2.2.2.2.2.2.2.2.2.1, .int v.2.2.2.2.2.2.2.2.2.2.2.1, .int v.2.2.2.2.2.2.2.2.2.2.2.2.1, .int v.2.2.2.2.2.2.2.2.2.2.2.2.2.1, .int v.2.2.2.2.2.2.2.2.2.2.2.2.2.2.1, .int v.2.2.2.2.2.2.2.2.2.2.2.2.2.2.2])), (h1, .inl (z.1, 108, .inl v.1)), (h2, .inl (z.1, 108, .inl v.2.1)), (h3, .inl (z.1, 432, .inl v.2.2.1)), (h4, .inl (z.1, 108, .inl v.2.2.2.2.1)), (h5, .inl (z.1, 80, .inl v.2.2.2.2.2.2.1))] (fun _ => [(h, .inr (10, [.ref h1, .ref h2, .ref h3, .int v.2.2.2.1, .ref h4, .int v.2.2.2.2.2.1, .ref h5, .int v.2.2.2.2.2.2.2.1, .int v.2.2.2.2.2.2.2.2.1, .int v.2.2.2.2.2.2.2.2.2.1, .int v.2.2.2.2.2.2.2.2.2.2.1, .int v.2.2.2.2.2.2.2.2.2.2.2.1, .int v.2.2.2.2.2.2.2.2.2.2.2.2.1, .int v.2.2.2.2.2.2.2.2.2.2.2.2.2.1, .int v.2.2.2.2.2.2.2.2.2.2.2.2.2.2.1, .int v.2.2.2.2.2.2.2.2.2.2.2.2.2.2.2])), (h1, .inl (z.1, 108, .inl v.1)), (h2, .inl (z.1, 108, .inl v.2.1)), (h3, .inl (z.1, 432, .inl v.2.2.1)), (h4, .inl (z.1, 108, .inl v.2.2.2.2.1)), (h5, .inl (z.1, 80, .inl v.2.2.2.2.2.2.1))]) (rS (As := [.int (nI k5), .int 2]) (rest := [.ref h1]) ⟨hx, hb, hml, hown, hts⟩ (c_X10_of l D z (nI k5) 2 H.size) (va_cwS 2 hts gX10_reels_X10_of rfl rfl rfl (by decide +kernel) ⟨Nat.le_trans (by decide) hRf, Nat.le_trans (by decide) hRl⟩) e0_ok e_0 hK hP hD [] (by decide) rfl rfl hl.1 rfl (Nat.le_of_ble_eq_true rfl) dX10_reels_41 ⟨Nat.zero_le _, Nat.zero_le _⟩) hK hP hD hS hA [] [0, 1, 2, 3, 4, 5] [0, 1, 2, 3, 4, 5] rfl rfl (by decide) (by decide) (by decide) (fun _ => rfl) (fun zr zu H locs hw hP hD hS => ?_)
          subst hw
          have hP : va_P D vwCl [(h, .inr (10, [.ref h1, .ref h2, .ref h3, .int v.2.2.2.1, .ref h4, .int v.2.2.2.2.2.1, .ref h5, .int v.2.2.2.2.2.2.2.1, .int v.2.2.2.2.2.2.2.2.1, .int v.2.2.2.2.2.2.2.2.2.1, .int v.2.2.2.2.2.2.2.2.2.2.1, .int v.2.2.2.2.2.2.2.2.2.2.2.1, .int v.2.2.2.2.2.2.2.2.2.2.2.2.1, .int v.2.2.2.2.2.2.2.2.2.2.2.2.2.1, .int v.2.2.2.2.2.2.2.2.2.2.2.2.2.2.1, .int v.2.2.2.2.2.2.2.2.2.2.2.2.2.2.2])), (h1, .inl (z.1, 108, .inl v.1)), (h2, .inl (z.1, 108, .inl v.2.1)), (h3, .inl (z.1, 432, .inl v.2.2.1)), (h4, .inl (z.1, 108, .inl v.2.2.2.2.1)), (h5, .inl (z.1, 80, .inl v.2.2.2.2.2.2.1))] H := hP
          have hD : va_D A [(h, .inr (10, [.ref h1, .ref h2, .ref h3, .int v.2.2.2.1, .ref h4, .int v.2.2.2.2.2.1, .ref h5, .int v.2.2.2.2.2.2.2.1, .int v.2.2.2.2.2.2.2.2.1, .int v.2.2.2.2.2.2.2.2.2.1, .int v.2.2.2.2.2.2.2.2.2.2.1, .int v.2.2.2.2.2.2.2.2.2.2.2.1, .int v.2.2.2.2.2.2.2.2.2.2.2.2.1, .int v.2.2.2.2.2.2.2.2.2.2.2.2.2.1, .int v.2.2.2.2.2.2.2.2.2.2.2.2.2.2.1, .int v.2.2.2.2.2.2.2.2.2.2.2.2.2.2.2])), (h1, .inl (z.1, 108, .inl v.1)), (h2, .inl (z.1, 108, .inl v.2.1)), (h3, .inl (z.1, 432, .inl v.2.2.1)), (h4, .inl (z.1, 108, .inl v.2.2.2.2.1)), (h5, .inl (z.1, 80, .inl v.2.2.2.2.2.2.1))] := hD
          refine iald_k hx hb hK hP 1 rfl (5 * k5 + 2) (ix_of (of_n (nrf k5) (nlit 2)) (by omega) (by decide)) dX10_reels_44 ?_
          refine lv_istore (lv' := [(6, .int (v.1 (5 * k5 + 2))), (5, .int 1), (4, .int (nI k5)), (3, .int q5), (0, .ref h), (1, .int x), (2, .int y)]) hx hb dX10_reels_45 hl (by decide) rfl (fun ls hl => ?_)
          refine lv_aload_n hx hb dX10_reels_47 rfl (lv_at hl 4 rfl) ?_
          refine va_get (D := D) (ci := 10) (v := .ref h1) (C := RX10) (T := TX10) (N := 16) hx hb hts iX10_reels_X10 hown hK hP 0 rfl rfl 0 (by decide) (hts (.fieldLink RX10 7 "BarnPicturesModel" "s" "[I") (by decide +kernel)) (fun _ h9 => h9) rfl dX10_reels_48 ?_
          refine lv_iload hx hb dX10_reels_51 (lv_at hl 2 rfl) ?_
          refine lv_iconst (v := 4) hx hb dX10_reels_53 (by decide) ?_
          refine call_i [(h, .inr (10, [.ref h1, .ref h2, .ref h3, .int v.2.2.2.1, .ref h4, .int v.2.2.2.2.2.1, .ref h5, .int v.2.2.2.2.2.2.2.1, .int v.2.2.2.2.2.2.2.2.1, .int v.2.2.2.2.2.2.2.2.2.1, .int v.2.2.2.2.2.2.2.2.2.2.1, .int v.2.2.2.2.2.2.2.2.2.2.2.1, .int v.2.2.2.2.2.2.2.2.2.2.2.2.1, .int v.2.2.2.2.2.2.2.2.2.2.2.2.2.1, .int v.2.2.2.2.2.2.2.2.2.2.2.2.2.2.1, .int v.2.2.2.2.2.2.2.2.2.2.2.2.2.2.2])), (h1, .inl (z.1, 108, .inl v.1)), (h2, .inl (z.1, 108, .inl v.2.1)), (h3, .inl (z.1, 432, .inl v.2.2.1)), (h4, .inl (z.1, 108, .inl v.2.2.2.2.1)), (h5, .inl (z.1, 80, .inl v.2.2.2.2.2.2.1))] (fun _ => [(h, .inr (10, [.ref h1, .ref h2, .ref h3, .int v.2.2.2.1, .ref h4, .int v.2.2.2.2.2.1, .ref h5, .int v.2.2.2.2.2.2.2.1, .int v.2.2.2.2.2.2.2.2.1, .int v.2.2.2.2.2.2.2.2.2.1, .int v.2.2.2.2.2.2.2.2.2.2.1, .int v.2.2.2.2.2.2.2.2.2.2.2.1, .int v.2.2.2.2.2.2.2.2.2.2.2.2.1, .int v.2.2.2.2.2.2.2.2.2.2.2.2.2.1, .int v.2.2.2.2.2.2.2.2.2.2.2.2.2.2.1, .int v.2.2.2.2.2.2.2.2.2.2.2.2.2.2.2])), (h1, .inl (z.1, 108, .inl v.1)), (h2, .inl (z.1, 108, .inl v.2.1)), (h3, .inl (z.1, 432, .inl v.2.2.1)), (h4, .inl (z.1, 108, .inl v.2.2.2.2.1)), (h5, .inl (z.1, 80, .inl v.2.2.2.2.2.2.1))]) (rS (As := [.int (nI k5), .int 4]) (rest := [.ref h1]) ⟨hx, hb, hml, hown, hts⟩ (c_X10_of l D z (nI k5) 4 H.size) (va_cwS 2 hts gX10_reels_X10_of rfl rfl rfl (by decide +kernel) ⟨Nat.le_trans (by decide) hRf, Nat.le_trans (by decide) hRl⟩) e0_ok e_0 hK hP hD [] (by decide) rfl rfl hl.1 rfl (Nat.le_of_ble_eq_true rfl) dX10_reels_54 ⟨Nat.zero_le _, Nat.zero_le _⟩) hK hP hD hS hA [] [0, 1, 2, 3, 4, 5] [0, 1, 2, 3, 4, 5] rfl rfl (by decide) (by decide) (by decide) (fun _ => rfl) (fun zr zu H locs hw hP hD hS => ?_)
          subst hw
          have hP : va_P D vwCl [(h, .inr (10, [.ref h1, .ref h2, .ref h3, .int v.2.2.2.1, .ref h4, .int v.2.2.2.2.2.1, .ref h5, .int v.2.2.2.2.2.2.2.1, .int v.2.2.2.2.2.2.2.2.1, .int v.2.2.2.2.2.2.2.2.2.1, .int v.2.2.2.2.2.2.2.2.2.2.1, .int v.2.2.2.2.2.2.2.2.2.2.2.1, .int v.2.2.2.2.2.2.2.2.2.2.2.2.1, .int v.2.2.2.2.2.2.2.2.2.2.2.2.2.1, .int v.2.2.2.2.2.2.2.2.2.2.2.2.2.2.1, .int v.2.2.2.2.2.2.2.2.2.2.2.2.2.2.2])), (h1, .inl (z.1, 108, .inl v.1)), (h2, .inl (z.1, 108, .inl v.2.1)), (h3, .inl (z.1, 432, .inl v.2.2.1)), (h4, .inl (z.1, 108, .inl v.2.2.2.2.1)), (h5, .inl (z.1, 80, .inl v.2.2.2.2.2.2.1))] H := hP
          have hD : va_D A [(h, .inr (10, [.ref h1, .ref h2, .ref h3, .int v.2.2.2.1, .ref h4, .int v.2.2.2.2.2.1, .ref h5, .int v.2.2.2.2.2.2.2.1, .int v.2.2.2.2.2.2.2.2.1, .int v.2.2.2.2.2.2.2.2.2.1, .int v.2.2.2.2.2.2.2.2.2.2.1, .int v.2.2.2.2.2.2.2.2.2.2.2.1, .int v.2.2.2.2.2.2.2.2.2.2.2.2.1, .int v.2.2.2.2.2.2.2.2.2.2.2.2.2.1, .int v.2.2.2.2.2.2.2.2.2.2.2.2.2.2.1, .int v.2.2.2.2.2.2.2.2.2.2.2.2.2.2.2])), (h1, .inl (z.1, 108, .inl v.1)), (h2, .inl (z.1, 108, .inl v.2.1)), (h3, .inl (z.1, 432, .inl v.2.2.1)), (h4, .inl (z.1, 108, .inl v.2.2.2.2.1)), (h5, .inl (z.1, 80, .inl v.2.2.2.2.2.2.1))] := hD
          refine iald_k hx hb hK hP 1 rfl (5 * k5 + 4) (ix_of (of_n (nrf k5) (nlit 4)) (by omega) (by decide)) dX10_reels_57 ?_
          refine lv_iload_n hx hb dX10_reels_58 rfl (lv_at hl 5 rfl) ?_
          refine lv_ishr hx hb dX10_reels_59 ?_
          refine lv_iconst (v := 1) hx hb dX10_reels_60 (by decide) ?_
          refine lv_iand hx hb dX10_reels_61 ?_
          refine lv_if_ne (tgt := 69) hx hb dX10_reels_62 (by decide) (fun c_7 => ?_) (fun c_7 => ?_)
          · refine lv_iconst (v := 0) hx hb dX10_reels_69 (by decide) ?_
            refine lv_istore (lv' := [(7, .int 0), (6, .int (v.1 (5 * k5 + 2))), (5, .int 1), (4, .int (nI k5)), (3, .int q5), (0, .ref h), (1, .int x), (2, .int y)]) hx hb dX10_reels_70 hl (by decide) rfl (fun ls hl => ?_)
            refine lv_iload hx hb dX10_reels_72 (lv_at hl 2 rfl) ?_
            refine lv_if_ne (tgt := 81) hx hb dX10_reels_74 (by decide) (fun c_8 => ?_) (fun c_8 => absurd c_8 (by decide))
            refine lv_iload_n hx hb dX10_reels_81 rfl (lv_at hl 7 rfl) ?_
            refine lv_if_ne (tgt := 91) hx hb dX10_reels_82 (by decide) (fun c_9 => ?_) (fun c_9 => ?_)
            · refine lv_iload_n hx hb dX10_reels_91 rfl (lv_at hl 7 rfl) ?_
              refine lv_iconst (v := 1) hx hb dX10_reels_92 (by decide) ?_
              refine lv_icmp_ne (tgt := 112) hx hb dX10_reels_93 (by decide) (fun c_10 => ?_) (fun c_10 => ?_)
              · refine lv_iload_n hx hb dX10_reels_112 rfl (lv_at hl 7 rfl) ?_
                refine lv_iconst (v := 2) hx hb dX10_reels_113 (by decide) ?_
                refine lv_icmp_ne (tgt := 132) hx hb dX10_reels_114 (by decide) (fun c_11 => ?_) (fun c_11 => ?_)
                · refine lv_iload hx hb dX10_reels_132 (lv_at hl 0 rfl) ?_
                  refine lv_if_eq (tgt := 143) hx hb dX10_reels_134 (by decide) (fun c_12 => ?_) (fun c_12 => absurd c_12 (by decide))
                  refine lv_iload_n hx hb dX10_reels_143 rfl (lv_at hl 4 rfl) ?_
                  refine lv_istore_n (lv' := [(3, .int q5), (7, .int 0), (6, .int (v.1 (5 * k5 + 2))), (5, .int 1), (4, .int (nI k5)), (0, .ref h), (1, .int x), (2, .int y)]) hx hb dX10_reels_144 rfl hl (by decide) rfl (fun ls hl => ?_)
                  refine lv_iinc (v := nI (k5 + 1)) (lv' := [(4, .int (nI (k5 + 1))), (3, .int q5), (7, .int 0), (6, .int (v.1 (5 * k5 + 2))), (5, .int 1), (0, .ref h), (1, .int x), (2, .int y)]) hx hb dX10_reels_145 hl (k := 4) rfl (nI_add k5 1) (by decide) rfl (fun ls hl => ?_)
                  refine lv_goto (tgt := 5) hx hb dX10_reels_148 (by decide) ?_
                  exact ih5 (k5 + 1) q5 (by rw [lp_X10_reels_5_s, ← hq5]; unfold st_X10_reels_5; rw [if_pos c_3, if_neg c_7, if_neg c_9, if_neg c_10, if_neg c_11]; try rfl) (by omega) (by omega) _ _ _ hP hD hS (lv_sub hl [0, 1, 5, 6, 7] rfl)
                · refine lv_iload hx hb dX10_reels_117 (lv_at hl 1 rfl) ?_
                  refine lv_iload_n hx hb dX10_reels_119 rfl (lv_at hl 4 rfl) ?_
                  refine lv_icmp_le (tgt := 128) hx hb dX10_reels_120 (by decide) (fun c_13 => ?_) (fun c_13 => ?_)
                  · refine lv_iload_n hx hb dX10_reels_128 rfl (lv_at hl 4 rfl) ?_
                    refine lv_goto (tgt := 144) hx hb dX10_reels_129 (by decide) ?_
                    refine lv_istore_n (lv' := [(3, .int q5), (7, .int 0), (6, .int (v.1 (5 * k5 + 2))), (5, .int 1), (4, .int (nI k5)), (0, .ref h), (1, .int x), (2, .int y)]) hx hb dX10_reels_144 rfl hl (by decide) rfl (fun ls hl => ?_)
                    refine lv_iinc (v := nI (k5 + 1)) (lv' := [(4, .int (nI (k5 + 1))), (3, .int q5), (7, .int 0), (6, .int (v.1 (5 * k5 + 2))), (5, .int 1), (0, .ref h), (1, .int x), (2, .int y)]) hx hb dX10_reels_145 hl (k := 4) rfl (nI_add k5 1) (by decide) rfl (fun ls hl => ?_)
                    refine lv_goto (tgt := 5) hx hb dX10_reels_148 (by decide) ?_
                    exact ih5 (k5 + 1) q5 (by rw [lp_X10_reels_5_s, ← hq5]; unfold st_X10_reels_5; rw [if_pos c_3, if_neg c_7, if_neg c_9, if_neg c_10, if_pos c_11, if_pos c_13]; try rfl) (by omega) (by omega) _ _ _ hP hD hS (lv_sub hl [0, 1, 5, 6, 7] rfl)
                  · refine lv_iload hx hb dX10_reels_123 (lv_at hl 1 rfl) ?_
                    refine lv_goto (tgt := 144) hx hb dX10_reels_125 (by decide) ?_
                    refine lv_istore_n (lv' := [(3, .int (v.1 (5 * k5 + 2))), (7, .int 0), (6, .int (v.1 (5 * k5 + 2))), (5, .int 1), (4, .int (nI k5)), (0, .ref h), (1, .int x), (2, .int y)]) hx hb dX10_reels_144 rfl hl (by decide) rfl (fun ls hl => ?_)
                    refine lv_iinc (v := nI (k5 + 1)) (lv' := [(4, .int (nI (k5 + 1))), (3, .int (v.1 (5 * k5 + 2))), (7, .int 0), (6, .int (v.1 (5 * k5 + 2))), (5, .int 1), (0, .ref h), (1, .int x), (2, .int y)]) hx hb dX10_reels_145 hl (k := 4) rfl (nI_add k5 1) (by decide) rfl (fun ls hl => ?_)
                    refine lv_goto (tgt := 5) hx hb dX10_reels_148 (by decide) ?_
                    exact ih5 (k5 + 1) (v.1 (5 * k5 + 2)) (by rw [lp_X10_reels_5_s, ← hq5]; unfold st_X10_reels_5; rw [if_pos c_3, if_neg c_7, if_neg c_9, if_neg c_10, if_pos c_11, if_neg c_13]; try rfl) (by omega) (by omega) _ _ _ hP hD hS (lv_sub hl [0, 1, 5, 6, 7] rfl)
              · refine lv_iload_n hx hb dX10_reels_96 rfl (lv_at hl 4 rfl) ?_
                refine lv_aload_n hx hb dX10_reels_97 rfl (lv_at hl 5 rfl) ?_
                refine va_get (D := D) (ci := 10) (v := .ref h1) (C := RX10) (T := TX10) (N := 16) hx hb hts iX10_reels_X10 hown hK hP 0 rfl rfl 0 (by decide) (hts (.fieldLink RX10 7 "BarnPicturesModel" "s" "[I") (by decide +kernel)) (fun _ h9 => h9) rfl dX10_reels_98 ?_
                refine lv_iload hx hb dX10_reels_101 (lv_at hl 3 rfl) ?_
                refine lv_iconst (v := 1) hx hb dX10_reels_103 (by decide) ?_
                refine call_i [(h, .inr (10, [.ref h1, .ref h2, .ref h3, .int v.2.2.2.1, .ref h4, .int v.2.2.2.2.2.1, .ref h5, .int v.2.2.2.2.2.2.2.1, .int v.2.2.2.2.2.2.2.2.1, .int v.2.2.2.2.2.2.2.2.2.1, .int v.2.2.2.2.2.2.2.2.2.2.1, .int v.2.2.2.2.2.2.2.2.2.2.2.1, .int v.2.2.2.2.2.2.2.2.2.2.2.2.1, .int v.2.2.2.2.2.2.2.2.2.2.2.2.2.1, .int v.2.2.2.2.2.2.2.2.2.2.2.2.2.2.1, .int v.2.2.2.2.2.2.2.2.2.2.2.2.2.2.2])), (h1, .inl (z.1, 108, .inl v.1)), (h2, .inl (z.1, 108, .inl v.2.1)), (h3, .inl (z.1, 432, .inl v.2.2.1)), (h4, .inl (z.1, 108, .inl v.2.2.2.2.1)), (h5, .inl (z.1, 80, .inl v.2.2.2.2.2.2.1))] (fun _ => [(h, .inr (10, [.ref h1, .ref h2, .ref h3, .int v.2.2.2.1, .ref h4, .int v.2.2.2.2.2.1, .ref h5, .int v.2.2.2.2.2.2.2.1, .int v.2.2.2.2.2.2.2.2.1, .int v.2.2.2.2.2.2.2.2.2.1, .int v.2.2.2.2.2.2.2.2.2.2.1, .int v.2.2.2.2.2.2.2.2.2.2.2.1, .int v.2.2.2.2.2.2.2.2.2.2.2.2.1, .int v.2.2.2.2.2.2.2.2.2.2.2.2.2.1, .int v.2.2.2.2.2.2.2.2.2.2.2.2.2.2.1, .int v.2.2.2.2.2.2.2.2.2.2.2.2.2.2.2])), (h1, .inl (z.1, 108, .inl v.1)), (h2, .inl (z.1, 108, .inl v.2.1)), (h3, .inl (z.1, 432, .inl v.2.2.1)), (h4, .inl (z.1, 108, .inl v.2.2.2.2.1)), (h5, .inl (z.1, 80, .inl v.2.2.2.2.2.2.1))]) (rS (As := [.int (nI k5), .int 1]) (rest := [.ref h1, .int q5]) ⟨hx, hb, hml, hown, hts⟩ (c_X10_of l D z (nI k5) 1 H.size) (va_cwS 2 hts gX10_reels_X10_of rfl rfl rfl (by decide +kernel) ⟨Nat.le_trans (by decide) hRf, Nat.le_trans (by decide) hRl⟩) e0_ok e_0 hK hP hD [] (by decide) rfl rfl hl.1 rfl (Nat.le_of_ble_eq_true rfl) dX10_reels_104 ⟨Nat.zero_le _, Nat.zero_le _⟩) hK hP hD hS hA [] [0, 1, 2, 3, 4, 5] [0, 1, 2, 3, 4, 5] rfl rfl (by decide) (by decide) (by decide) (fun _ => rfl) (fun zr zu H locs hw hP hD hS => ?_)
                subst hw
                have hP : va_P D vwCl [(h, .inr (10, [.ref h1, .ref h2, .ref h3, .int v.2.2.2.1, .ref h4, .int v.2.2.2.2.2.1, .ref h5, .int v.2.2.2.2.2.2.2.1, .int v.2.2.2.2.2.2.2.2.1, .int v.2.2.2.2.2.2.2.2.2.1, .int v.2.2.2.2.2.2.2.2.2.2.1, .int v.2.2.2.2.2.2.2.2.2.2.2.1, .int v.2.2.2.2.2.2.2.2.2.2.2.2.1, .int v.2.2.2.2.2.2.2.2.2.2.2.2.2.1, .int v.2.2.2.2.2.2.2.2.2.2.2.2.2.2.1, .int v.2.2.2.2.2.2.2.2.2.2.2.2.2.2.2])), (h1, .inl (z.1, 108, .inl v.1)), (h2, .inl (z.1, 108, .inl v.2.1)), (h3, .inl (z.1, 432, .inl v.2.2.1)), (h4, .inl (z.1, 108, .inl v.2.2.2.2.1)), (h5, .inl (z.1, 80, .inl v.2.2.2.2.2.2.1))] H := hP
                have hD : va_D A [(h, .inr (10, [.ref h1, .ref h2, .ref h3, .int v.2.2.2.1, .ref h4, .int v.2.2.2.2.2.1, .ref h5, .int v.2.2.2.2.2.2.2.1, .int v.2.2.2.2.2.2.2.2.1, .int v.2.2.2.2.2.2.2.2.2.1, .int v.2.2.2.2.2.2.2.2.2.2.1, .int v.2.2.2.2.2.2.2.2.2.2.2.1, .int v.2.2.2.2.2.2.2.2.2.2.2.2.1, .int v.2.2.2.2.2.2.2.2.2.2.2.2.2.1, .int v.2.2.2.2.2.2.2.2.2.2.2.2.2.2.1, .int v.2.2.2.2.2.2.2.2.2.2.2.2.2.2.2])), (h1, .inl (z.1, 108, .inl v.1)), (h2, .inl (z.1, 108, .inl v.2.1)), (h3, .inl (z.1, 432, .inl v.2.2.1)), (h4, .inl (z.1, 108, .inl v.2.2.2.2.1)), (h5, .inl (z.1, 80, .inl v.2.2.2.2.2.2.1))] := hD
                refine iald_k hx hb hK hP 1 rfl (5 * k5 + 1) (ix_of (of_n (nrf k5) (nlit 1)) (by omega) (by decide)) dX10_reels_107 ?_
                refine lv_iadd hx hb dX10_reels_108 ?_
                refine lv_goto (tgt := 144) hx hb dX10_reels_109 (by decide) ?_
                refine lv_istore_n (lv' := [(3, .int (q5 + (v.1 (5 * k5 + 1)))), (7, .int 0), (6, .int (v.1 (5 * k5 + 2))), (5, .int 1), (4, .int (nI k5)), (0, .ref h), (1, .int x), (2, .int y)]) hx hb dX10_reels_144 rfl hl (by decide) rfl (fun ls hl => ?_)
                refine lv_iinc (v := nI (k5 + 1)) (lv' := [(4, .int (nI (k5 + 1))), (3, .int (q5 + (v.1 (5 * k5 + 1)))), (7, .int 0), (6, .int (v.1 (5 * k5 + 2))), (5, .int 1), (0, .ref h), (1, .int x), (2, .int y)]) hx hb dX10_reels_145 hl (k := 4) rfl (nI_add k5 1) (by decide) rfl (fun ls hl => ?_)
                refine lv_goto (tgt := 5) hx hb dX10_reels_148 (by decide) ?_
                exact ih5 (k5 + 1) (q5 + (v.1 (5 * k5 + 1))) (by rw [lp_X10_reels_5_s, ← hq5]; unfold st_X10_reels_5; rw [if_pos c_3, if_neg c_7, if_neg c_9, if_pos c_10]; try rfl) (by omega) (by omega) _ _ _ hP hD hS (lv_sub hl [0, 1, 5, 6, 7] rfl)
            · refine lv_iload_n hx hb dX10_reels_85 rfl (lv_at hl 4 rfl) ?_
              refine lv_iconst (v := 1) hx hb dX10_reels_86 (by decide) ?_
              refine lv_iadd hx hb dX10_reels_87 ?_
              refine lv_goto (tgt := 144) hx hb dX10_reels_88 (by decide) ?_
              refine lv_istore_n (lv' := [(3, .int (q5 + 1)), (7, .int 0), (6, .int (v.1 (5 * k5 + 2))), (5, .int 1), (4, .int (nI k5)), (0, .ref h), (1, .int x), (2, .int y)]) hx hb dX10_reels_144 rfl hl (by decide) rfl (fun ls hl => ?_)
              refine lv_iinc (v := nI (k5 + 1)) (lv' := [(4, .int (nI (k5 + 1))), (3, .int (q5 + 1)), (7, .int 0), (6, .int (v.1 (5 * k5 + 2))), (5, .int 1), (0, .ref h), (1, .int x), (2, .int y)]) hx hb dX10_reels_145 hl (k := 4) rfl (nI_add k5 1) (by decide) rfl (fun ls hl => ?_)
              refine lv_goto (tgt := 5) hx hb dX10_reels_148 (by decide) ?_
              exact ih5 (k5 + 1) (q5 + 1) (by rw [lp_X10_reels_5_s, ← hq5]; unfold st_X10_reels_5; rw [if_pos c_3, if_neg c_7, if_pos c_9]; try rfl) (by omega) (by omega) _ _ _ hP hD hS (lv_sub hl [0, 1, 5, 6, 7] rfl)
          · refine lv_iconst (v := 1) hx hb dX10_reels_65 (by decide) ?_
            refine lv_goto (tgt := 70) hx hb dX10_reels_66 (by decide) ?_
            refine lv_istore (lv' := [(7, .int 1), (6, .int (v.1 (5 * k5 + 2))), (5, .int 1), (4, .int (nI k5)), (3, .int q5), (0, .ref h), (1, .int x), (2, .int y)]) hx hb dX10_reels_70 hl (by decide) rfl (fun ls hl => ?_)
            refine lv_iload hx hb dX10_reels_72 (lv_at hl 2 rfl) ?_
            refine lv_if_ne (tgt := 81) hx hb dX10_reels_74 (by decide) (fun c_14 => ?_) (fun c_14 => absurd c_14 (by decide))
            refine lv_iload_n hx hb dX10_reels_81 rfl (lv_at hl 7 rfl) ?_
            refine lv_if_ne (tgt := 91) hx hb dX10_reels_82 (by decide) (fun c_15 => ?_) (fun c_15 => ?_)
            · refine lv_iload_n hx hb dX10_reels_91 rfl (lv_at hl 7 rfl) ?_
              refine lv_iconst (v := 1) hx hb dX10_reels_92 (by decide) ?_
              refine lv_icmp_ne (tgt := 112) hx hb dX10_reels_93 (by decide) (fun c_16 => ?_) (fun c_16 => ?_)
              · refine lv_iload_n hx hb dX10_reels_112 rfl (lv_at hl 7 rfl) ?_
                refine lv_iconst (v := 2) hx hb dX10_reels_113 (by decide) ?_
                refine lv_icmp_ne (tgt := 132) hx hb dX10_reels_114 (by decide) (fun c_17 => ?_) (fun c_17 => ?_)
                · refine lv_iload hx hb dX10_reels_132 (lv_at hl 0 rfl) ?_
                  refine lv_if_eq (tgt := 143) hx hb dX10_reels_134 (by decide) (fun c_18 => absurd c_18 (by decide)) (fun c_18 => ?_)
                  refine lv_iload_n hx hb dX10_reels_137 rfl (lv_at hl 4 rfl) ?_
                  refine lv_iconst (v := 1) hx hb dX10_reels_138 (by decide) ?_
                  refine lv_iadd hx hb dX10_reels_139 ?_
                  refine lv_goto (tgt := 144) hx hb dX10_reels_140 (by decide) ?_
                  refine lv_istore_n (lv' := [(3, .int (q5 + 1)), (7, .int 1), (6, .int (v.1 (5 * k5 + 2))), (5, .int 1), (4, .int (nI k5)), (0, .ref h), (1, .int x), (2, .int y)]) hx hb dX10_reels_144 rfl hl (by decide) rfl (fun ls hl => ?_)
                  refine lv_iinc (v := nI (k5 + 1)) (lv' := [(4, .int (nI (k5 + 1))), (3, .int (q5 + 1)), (7, .int 1), (6, .int (v.1 (5 * k5 + 2))), (5, .int 1), (0, .ref h), (1, .int x), (2, .int y)]) hx hb dX10_reels_145 hl (k := 4) rfl (nI_add k5 1) (by decide) rfl (fun ls hl => ?_)
                  refine lv_goto (tgt := 5) hx hb dX10_reels_148 (by decide) ?_
                  exact ih5 (k5 + 1) (q5 + 1) (by rw [lp_X10_reels_5_s, ← hq5]; unfold st_X10_reels_5; rw [if_pos c_3, if_pos c_7, if_neg c_15, if_neg c_16, if_neg c_17]; try rfl) (by omega) (by omega) _ _ _ hP hD hS (lv_sub hl [0, 1, 5, 6, 7] rfl)
                · refine lv_iload hx hb dX10_reels_117 (lv_at hl 1 rfl) ?_
                  refine lv_iload_n hx hb dX10_reels_119 rfl (lv_at hl 4 rfl) ?_
                  refine lv_icmp_le (tgt := 128) hx hb dX10_reels_120 (by decide) (fun c_19 => ?_) (fun c_19 => ?_)
                  · refine lv_iload_n hx hb dX10_reels_128 rfl (lv_at hl 4 rfl) ?_
                    refine lv_goto (tgt := 144) hx hb dX10_reels_129 (by decide) ?_
                    refine lv_istore_n (lv' := [(3, .int q5), (7, .int 1), (6, .int (v.1 (5 * k5 + 2))), (5, .int 1), (4, .int (nI k5)), (0, .ref h), (1, .int x), (2, .int y)]) hx hb dX10_reels_144 rfl hl (by decide) rfl (fun ls hl => ?_)
                    refine lv_iinc (v := nI (k5 + 1)) (lv' := [(4, .int (nI (k5 + 1))), (3, .int q5), (7, .int 1), (6, .int (v.1 (5 * k5 + 2))), (5, .int 1), (0, .ref h), (1, .int x), (2, .int y)]) hx hb dX10_reels_145 hl (k := 4) rfl (nI_add k5 1) (by decide) rfl (fun ls hl => ?_)
                    refine lv_goto (tgt := 5) hx hb dX10_reels_148 (by decide) ?_
                    exact ih5 (k5 + 1) q5 (by rw [lp_X10_reels_5_s, ← hq5]; unfold st_X10_reels_5; rw [if_pos c_3, if_pos c_7, if_neg c_15, if_neg c_16, if_pos c_17, if_pos c_19]; try rfl) (by omega) (by omega) _ _ _ hP hD hS (lv_sub hl [0, 1, 5, 6, 7] rfl)
                  · refine lv_iload hx hb dX10_reels_123 (lv_at hl 1 rfl) ?_
                    refine lv_goto (tgt := 144) hx hb dX10_reels_125 (by decide) ?_
                    refine lv_istore_n (lv' := [(3, .int (v.1 (5 * k5 + 2))), (7, .int 1), (6, .int (v.1 (5 * k5 + 2))), (5, .int 1), (4, .int (nI k5)), (0, .ref h), (1, .int x), (2, .int y)]) hx hb dX10_reels_144 rfl hl (by decide) rfl (fun ls hl => ?_)
                    refine lv_iinc (v := nI (k5 + 1)) (lv' := [(4, .int (nI (k5 + 1))), (3, .int (v.1 (5 * k5 + 2))), (7, .int 1), (6, .int (v.1 (5 * k5 + 2))), (5, .int 1), (0, .ref h), (1, .int x), (2, .int y)]) hx hb dX10_reels_145 hl (k := 4) rfl (nI_add k5 1) (by decide) rfl (fun ls hl => ?_)
                    refine lv_goto (tgt := 5) hx hb dX10_reels_148 (by decide) ?_
                    exact ih5 (k5 + 1) (v.1 (5 * k5 + 2)) (by rw [lp_X10_reels_5_s, ← hq5]; unfold st_X10_reels_5; rw [if_pos c_3, if_pos c_7, if_neg c_15, if_neg c_16, if_pos c_17, if_neg c_19]; try rfl) (by omega) (by omega) _ _ _ hP hD hS (lv_sub hl [0, 1, 5, 6, 7] rfl)
              · refine lv_iload_n hx hb dX10_reels_96 rfl (lv_at hl 4 rfl) ?_
                refine lv_aload_n hx hb dX10_reels_97 rfl (lv_at hl 5 rfl) ?_
                refine va_get (D := D) (ci := 10) (v := .ref h1) (C := RX10) (T := TX10) (N := 16) hx hb hts iX10_reels_X10 hown hK hP 0 rfl rfl 0 (by decide) (hts (.fieldLink RX10 7 "BarnPicturesModel" "s" "[I") (by decide +kernel)) (fun _ h9 => h9) rfl dX10_reels_98 ?_
                refine lv_iload hx hb dX10_reels_101 (lv_at hl 3 rfl) ?_
                refine lv_iconst (v := 1) hx hb dX10_reels_103 (by decide) ?_
                refine call_i [(h, .inr (10, [.ref h1, .ref h2, .ref h3, .int v.2.2.2.1, .ref h4, .int v.2.2.2.2.2.1, .ref h5, .int v.2.2.2.2.2.2.2.1, .int v.2.2.2.2.2.2.2.2.1, .int v.2.2.2.2.2.2.2.2.2.1, .int v.2.2.2.2.2.2.2.2.2.2.1, .int v.2.2.2.2.2.2.2.2.2.2.2.1, .int v.2.2.2.2.2.2.2.2.2.2.2.2.1, .int v.2.2.2.2.2.2.2.2.2.2.2.2.2.1, .int v.2.2.2.2.2.2.2.2.2.2.2.2.2.2.1, .int v.2.2.2.2.2.2.2.2.2.2.2.2.2.2.2])), (h1, .inl (z.1, 108, .inl v.1)), (h2, .inl (z.1, 108, .inl v.2.1)), (h3, .inl (z.1, 432, .inl v.2.2.1)), (h4, .inl (z.1, 108, .inl v.2.2.2.2.1)), (h5, .inl (z.1, 80, .inl v.2.2.2.2.2.2.1))] (fun _ => [(h, .inr (10, [.ref h1, .ref h2, .ref h3, .int v.2.2.2.1, .ref h4, .int v.2.2.2.2.2.1, .ref h5, .int v.2.2.2.2.2.2.2.1, .int v.2.2.2.2.2.2.2.2.1, .int v.2.2.2.2.2.2.2.2.2.1, .int v.2.2.2.2.2.2.2.2.2.2.1, .int v.2.2.2.2.2.2.2.2.2.2.2.1, .int v.2.2.2.2.2.2.2.2.2.2.2.2.1, .int v.2.2.2.2.2.2.2.2.2.2.2.2.2.1, .int v.2.2.2.2.2.2.2.2.2.2.2.2.2.2.1, .int v.2.2.2.2.2.2.2.2.2.2.2.2.2.2.2])), (h1, .inl (z.1, 108, .inl v.1)), (h2, .inl (z.1, 108, .inl v.2.1)), (h3, .inl (z.1, 432, .inl v.2.2.1)), (h4, .inl (z.1, 108, .inl v.2.2.2.2.1)), (h5, .inl (z.1, 80, .inl v.2.2.2.2.2.2.1))]) (rS (As := [.int (nI k5), .int 1]) (rest := [.ref h1, .int q5]) ⟨hx, hb, hml, hown, hts⟩ (c_X10_of l D z (nI k5) 1 H.size) (va_cwS 2 hts gX10_reels_X10_of rfl rfl rfl (by decide +kernel) ⟨Nat.le_trans (by decide) hRf, Nat.le_trans (by decide) hRl⟩) e0_ok e_0 hK hP hD [] (by decide) rfl rfl hl.1 rfl (Nat.le_of_ble_eq_true rfl) dX10_reels_104 ⟨Nat.zero_le _, Nat.zero_le _⟩) hK hP hD hS hA [] [0, 1, 2, 3, 4, 5] [0, 1, 2, 3, 4, 5] rfl rfl (by decide) (by decide) (by decide) (fun _ => rfl) (fun zr zu H locs hw hP hD hS => ?_)
                subst hw
                have hP : va_P D vwCl [(h, .inr (10, [.ref h1, .ref h2, .ref h3, .int v.2.2.2.1, .ref h4, .int v.2.2.2.2.2.1, .ref h5, .int v.2.2.2.2.2.2.2.1, .int v.2.2.2.2.2.2.2.2.1, .int v.2.2.2.2.2.2.2.2.2.1, .int v.2.2.2.2.2.2.2.2.2.2.1, .int v.2.2.2.2.2.2.2.2.2.2.2.1, .int v.2.2.2.2.2.2.2.2.2.2.2.2.1, .int v.2.2.2.2.2.2.2.2.2.2.2.2.2.1, .int v.2.2.2.2.2.2.2.2.2.2.2.2.2.2.1, .int v.2.2.2.2.2.2.2.2.2.2.2.2.2.2.2])), (h1, .inl (z.1, 108, .inl v.1)), (h2, .inl (z.1, 108, .inl v.2.1)), (h3, .inl (z.1, 432, .inl v.2.2.1)), (h4, .inl (z.1, 108, .inl v.2.2.2.2.1)), (h5, .inl (z.1, 80, .inl v.2.2.2.2.2.2.1))] H := hP
                have hD : va_D A [(h, .inr (10, [.ref h1, .ref h2, .ref h3, .int v.2.2.2.1, .ref h4, .int v.2.2.2.2.2.1, .ref h5, .int v.2.2.2.2.2.2.2.1, .int v.2.2.2.2.2.2.2.2.1, .int v.2.2.2.2.2.2.2.2.2.1, .int v.2.2.2.2.2.2.2.2.2.2.1, .int v.2.2.2.2.2.2.2.2.2.2.2.1, .int v.2.2.2.2.2.2.2.2.2.2.2.2.1, .int v.2.2.2.2.2.2.2.2.2.2.2.2.2.1, .int v.2.2.2.2.2.2.2.2.2.2.2.2.2.2.1, .int v.2.2.2.2.2.2.2.2.2.2.2.2.2.2.2])), (h1, .inl (z.1, 108, .inl v.1)), (h2, .inl (z.1, 108, .inl v.2.1)), (h3, .inl (z.1, 432, .inl v.2.2.1)), (h4, .inl (z.1, 108, .inl v.2.2.2.2.1)), (h5, .inl (z.1, 80, .inl v.2.2.2.2.2.2.1))] := hD
                refine iald_k hx hb hK hP 1 rfl (5 * k5 + 1) (ix_of (of_n (nrf k5) (nlit 1)) (by omega) (by decide)) dX10_reels_107 ?_
                refine lv_iadd hx hb dX10_reels_108 ?_
                refine lv_goto (tgt := 144) hx hb dX10_reels_109 (by decide) ?_
                refine lv_istore_n (lv' := [(3, .int (q5 + (v.1 (5 * k5 + 1)))), (7, .int 1), (6, .int (v.1 (5 * k5 + 2))), (5, .int 1), (4, .int (nI k5)), (0, .ref h), (1, .int x), (2, .int y)]) hx hb dX10_reels_144 rfl hl (by decide) rfl (fun ls hl => ?_)
                refine lv_iinc (v := nI (k5 + 1)) (lv' := [(4, .int (nI (k5 + 1))), (3, .int (q5 + (v.1 (5 * k5 + 1)))), (7, .int 1), (6, .int (v.1 (5 * k5 + 2))), (5, .int 1), (0, .ref h), (1, .int x), (2, .int y)]) hx hb dX10_reels_145 hl (k := 4) rfl (nI_add k5 1) (by decide) rfl (fun ls hl => ?_)
                refine lv_goto (tgt := 5) hx hb dX10_reels_148 (by decide) ?_
                exact ih5 (k5 + 1) (q5 + (v.1 (5 * k5 + 1))) (by rw [lp_X10_reels_5_s, ← hq5]; unfold st_X10_reels_5; rw [if_pos c_3, if_pos c_7, if_neg c_15, if_pos c_16]; try rfl) (by omega) (by omega) _ _ _ hP hD hS (lv_sub hl [0, 1, 5, 6, 7] rfl)
            · refine lv_iload_n hx hb dX10_reels_85 rfl (lv_at hl 4 rfl) ?_
              refine lv_iconst (v := 1) hx hb dX10_reels_86 (by decide) ?_
              refine lv_iadd hx hb dX10_reels_87 ?_
              refine lv_goto (tgt := 144) hx hb dX10_reels_88 (by decide) ?_
              refine lv_istore_n (lv' := [(3, .int (q5 + 1)), (7, .int 1), (6, .int (v.1 (5 * k5 + 2))), (5, .int 1), (4, .int (nI k5)), (0, .ref h), (1, .int x), (2, .int y)]) hx hb dX10_reels_144 rfl hl (by decide) rfl (fun ls hl => ?_)
              refine lv_iinc (v := nI (k5 + 1)) (lv' := [(4, .int (nI (k5 + 1))), (3, .int (q5 + 1)), (7, .int 1), (6, .int (v.1 (5 * k5 + 2))), (5, .int 1), (0, .ref h), (1, .int x), (2, .int y)]) hx hb dX10_reels_145 hl (k := 4) rfl (nI_add k5 1) (by decide) rfl (fun ls hl => ?_)
              refine lv_goto (tgt := 5) hx hb dX10_reels_148 (by decide) ?_
              exact ih5 (k5 + 1) (q5 + 1) (by rw [lp_X10_reels_5_s, ← hq5]; unfold st_X10_reels_5; rw [if_pos c_3, if_pos c_7, if_pos c_15]; try rfl) (by omega) (by omega) _ _ _ hP hD hS (lv_sub hl [0, 1, 5, 6, 7] rfl)
      · obtain rfl : 10 = k5 := by omega
        refine lv_icmp_ge (tgt := 151) hx hb dX10_reels_9 (by decide) (fun c_2 => ?_) (fun c_2 => absurd (nI_le (a := 10) (b := 10) (by omega) (by omega)) c_2)
        have hP : va_P D vwCl [(h, .inr (10, [.ref h1, .ref h2, .ref h3, .int v.2.2.2.1, .ref h4, .int v.2.2.2.2.2.1, .ref h5, .int v.2.2.2.2.2.2.2.1, .int v.2.2.2.2.2.2.2.2.1, .int v.2.2.2.2.2.2.2.2.2.1, .int v.2.2.2.2.2.2.2.2.2.2.1, .int v.2.2.2.2.2.2.2.2.2.2.2.1, .int v.2.2.2.2.2.2.2.2.2.2.2.2.1, .int v.2.2.2.2.2.2.2.2.2.2.2.2.2.1, .int v.2.2.2.2.2.2.2.2.2.2.2.2.2.2.1, .int v.2.2.2.2.2.2.2.2.2.2.2.2.2.2.2])), (h1, .inl (z.1, 108, .inl v.1)), (h2, .inl (z.1, 108, .inl v.2.1)), (h3, .inl (z.1, 432, .inl v.2.2.1)), (h4, .inl (z.1, 108, .inl v.2.2.2.2.1)), (h5, .inl (z.1, 80, .inl v.2.2.2.2.2.2.1))] H := hP
        have hD : va_D A [(h, .inr (10, [.ref h1, .ref h2, .ref h3, .int v.2.2.2.1, .ref h4, .int v.2.2.2.2.2.1, .ref h5, .int v.2.2.2.2.2.2.2.1, .int v.2.2.2.2.2.2.2.2.1, .int v.2.2.2.2.2.2.2.2.2.1, .int v.2.2.2.2.2.2.2.2.2.2.1, .int v.2.2.2.2.2.2.2.2.2.2.2.1, .int v.2.2.2.2.2.2.2.2.2.2.2.2.1, .int v.2.2.2.2.2.2.2.2.2.2.2.2.2.1, .int v.2.2.2.2.2.2.2.2.2.2.2.2.2.2.1, .int v.2.2.2.2.2.2.2.2.2.2.2.2.2.2.2])), (h1, .inl (z.1, 108, .inl v.1)), (h2, .inl (z.1, 108, .inl v.2.1)), (h3, .inl (z.1, 432, .inl v.2.2.1)), (h4, .inl (z.1, 108, .inl v.2.2.2.2.1)), (h5, .inl (z.1, 80, .inl v.2.2.2.2.2.2.1))] := hD
        refine lv_iload_n hx hb dX10_reels_151 rfl (lv_at hl 1 rfl) ?_
        subst hQ
        exact ret_i () hx hb hr hK hP hD hS rfl (by unfold f_X10_reels; rw [← hq5]; unfold f_X10_reels_5_x; try rfl) dX10_reels_152 hlocks
  exact L5 (10 + 1) 0 0 (lp_X10_reels_5_0 v.1 x y 0).symm (Nat.zero_le _) (by omega) _ _ _ hP hD hS (lv_sub hl [0, 1, 2, 3, 4] rfl)

theorem iX10_generatorFor_X10 : ∀ w ∈ wsX100, w ∈ wsX10_generatorFor := by decide +kernel
def f_X10_generatorFor (s : (Nat → Int32)) (x : Int32) (y : Int32) : Int32 := if (s (50 + (2 * 0))) = x then if (s ((50 + (2 * 0)) + 1)) < y then if (s (50 + (2 * 1))) = x then if (s ((50 + (2 * 1)) + 1)) < y then (-10000005) else 1 else (-10000005) else 0 else if (s (50 + (2 * 1))) = x then if (s ((50 + (2 * 1)) + 1)) < y then (-10000005) else 1 else (-10000005)
set_option maxRecDepth 100000 in
set_option maxHeartbeats 1000000 in
theorem c_X10_generatorFor (l : Launch) (D : va_G) (z : ClassId × ClassId × ClassId) (h h1 h2 h3 h4 h5 : Nat) (v : MV) (x : Int32) (y : Int32) (sz : Nat) : CI l yX10_generatorFor wsX10_generatorFor 0 0 0 0 [.ref h, .int x, .int y] D z (wX10 z h h1 h2 h3 h4 h5 v) sz (E0) (fun (zr : Int32) (_ : Unit) => zr = f_X10_generatorFor v.1 x y) (fun _ => wX10 z h h1 h2 h3 h4 h5 v) := by
  refine met_i cX10_generatorFor 4 (some .int) (by decide) rfl (Nat.le_of_ble_eq_true rfl) ?_
  intro p e s m args below meth c R Q hx hb hr hml hts hown hlocks hin hRf hRl hRc hRs hc0 hs0 A H hA hP hK hD hS hE hQ ls hl
  have hl : lv_has ls 4 [(0, .ref h), (1, .int x), (2, .int y)] := hl
  have hP : va_P D vwCl [(h, .inr (10, [.ref h1, .ref h2, .ref h3, .int v.2.2.2.1, .ref h4, .int v.2.2.2.2.2.1, .ref h5, .int v.2.2.2.2.2.2.2.1, .int v.2.2.2.2.2.2.2.2.1, .int v.2.2.2.2.2.2.2.2.2.1, .int v.2.2.2.2.2.2.2.2.2.2.1, .int v.2.2.2.2.2.2.2.2.2.2.2.1, .int v.2.2.2.2.2.2.2.2.2.2.2.2.1, .int v.2.2.2.2.2.2.2.2.2.2.2.2.2.1, .int v.2.2.2.2.2.2.2.2.2.2.2.2.2.2.1, .int v.2.2.2.2.2.2.2.2.2.2.2.2.2.2.2])), (h1, .inl (z.1, 108, .inl v.1)), (h2, .inl (z.1, 108, .inl v.2.1)), (h3, .inl (z.1, 432, .inl v.2.2.1)), (h4, .inl (z.1, 108, .inl v.2.2.2.2.1)), (h5, .inl (z.1, 80, .inl v.2.2.2.2.2.2.1))] H := hP
  have hD : va_D A [(h, .inr (10, [.ref h1, .ref h2, .ref h3, .int v.2.2.2.1, .ref h4, .int v.2.2.2.2.2.1, .ref h5, .int v.2.2.2.2.2.2.2.1, .int v.2.2.2.2.2.2.2.2.1, .int v.2.2.2.2.2.2.2.2.2.1, .int v.2.2.2.2.2.2.2.2.2.2.1, .int v.2.2.2.2.2.2.2.2.2.2.2.1, .int v.2.2.2.2.2.2.2.2.2.2.2.2.1, .int v.2.2.2.2.2.2.2.2.2.2.2.2.2.1, .int v.2.2.2.2.2.2.2.2.2.2.2.2.2.2.1, .int v.2.2.2.2.2.2.2.2.2.2.2.2.2.2.2])), (h1, .inl (z.1, 108, .inl v.1)), (h2, .inl (z.1, 108, .inl v.2.1)), (h3, .inl (z.1, 432, .inl v.2.2.1)), (h4, .inl (z.1, 108, .inl v.2.2.2.2.1)), (h5, .inl (z.1, 80, .inl v.2.2.2.2.2.2.1))] := hD
  have hown : s.vm.findClass RX10 = some m.cls := hown
  refine lv_iconst (v := 0) hx hb dX10_generatorFor_0 (by decide) ?_
  refine lv_istore_n (lv' := [(3, .int 0), (0, .ref h), (1, .int x), (2, .int y)]) hx hb dX10_generatorFor_1 rfl hl (by decide) rfl (fun ls hl => ?_)
  refine lv_iload_n hx hb dX10_generatorFor_2 rfl (lv_at hl 0 rfl) ?_
  refine lv_iconst (v := 2) hx hb dX10_generatorFor_3 (by decide) ?_
  refine lv_icmp_ge (tgt := 47) hx hb dX10_generatorFor_4 (by decide) (fun c_1 => absurd c_1 (by decide)) (fun c_1 => ?_)
  refine lv_aload_n hx hb dX10_generatorFor_7 rfl (lv_at hl 1 rfl) ?_
  refine va_get (D := D) (ci := 10) (v := .ref h1) (C := RX10) (T := TX10) (N := 16) hx hb hts iX10_generatorFor_X10 hown hK hP 0 rfl rfl 0 (by decide) (hts (.fieldLink RX10 7 "BarnPicturesModel" "s" "[I") (by decide +kernel)) (fun _ h9 => h9) rfl dX10_generatorFor_8 ?_
  refine lv_bipush (v := 50) hx hb dX10_generatorFor_11 (by decide) ?_
  refine lv_iconst (v := 2) hx hb dX10_generatorFor_13 (by decide) ?_
  refine lv_iload_n hx hb dX10_generatorFor_14 rfl (lv_at hl 0 rfl) ?_
  refine lv_imul hx hb dX10_generatorFor_15 ?_
  refine lv_iadd hx hb dX10_generatorFor_16 ?_
  refine iald_k hx hb hK hP 1 rfl (50 + (2 * 0)) (ix_of (nadd (nlit 50) (nmul (nlit 2) (nlit 0))) (by omega) (by decide)) dX10_generatorFor_17 ?_
  refine lv_iload_n hx hb dX10_generatorFor_18 rfl (lv_at hl 2 rfl) ?_
  refine lv_icmp_ne (tgt := 41) hx hb dX10_generatorFor_19 (by decide) (fun c_2 => ?_) (fun c_2 => ?_)
  · refine lv_iinc (v := 1) (lv' := [(3, .int 1), (0, .ref h), (1, .int x), (2, .int y)]) hx hb dX10_generatorFor_41 hl (k := 0) rfl (by decide) (by decide) rfl (fun ls hl => ?_)
    refine lv_goto (tgt := 2) hx hb dX10_generatorFor_44 (by decide) ?_
    refine lv_iload_n hx hb dX10_generatorFor_2 rfl (lv_at hl 0 rfl) ?_
    refine lv_iconst (v := 2) hx hb dX10_generatorFor_3 (by decide) ?_
    refine lv_icmp_ge (tgt := 47) hx hb dX10_generatorFor_4 (by decide) (fun c_3 => absurd c_3 (by decide)) (fun c_3 => ?_)
    refine lv_aload_n hx hb dX10_generatorFor_7 rfl (lv_at hl 1 rfl) ?_
    refine va_get (D := D) (ci := 10) (v := .ref h1) (C := RX10) (T := TX10) (N := 16) hx hb hts iX10_generatorFor_X10 hown hK hP 0 rfl rfl 0 (by decide) (hts (.fieldLink RX10 7 "BarnPicturesModel" "s" "[I") (by decide +kernel)) (fun _ h9 => h9) rfl dX10_generatorFor_8 ?_
    refine lv_bipush (v := 50) hx hb dX10_generatorFor_11 (by decide) ?_
    refine lv_iconst (v := 2) hx hb dX10_generatorFor_13 (by decide) ?_
    refine lv_iload_n hx hb dX10_generatorFor_14 rfl (lv_at hl 0 rfl) ?_
    refine lv_imul hx hb dX10_generatorFor_15 ?_
    refine lv_iadd hx hb dX10_generatorFor_16 ?_
    refine iald_k hx hb hK hP 1 rfl (50 + (2 * 1)) (ix_of (nadd (nlit 50) (nmul (nlit 2) (nlit 1))) (by omega) (by decide)) dX10_generatorFor_17 ?_
    refine lv_iload_n hx hb dX10_generatorFor_18 rfl (lv_at hl 2 rfl) ?_
    refine lv_icmp_ne (tgt := 41) hx hb dX10_generatorFor_19 (by decide) (fun c_4 => ?_) (fun c_4 => ?_)
    · refine lv_iinc (v := 2) (lv' := [(3, .int 2), (0, .ref h), (1, .int x), (2, .int y)]) hx hb dX10_generatorFor_41 hl (k := 0) rfl (by decide) (by decide) rfl (fun ls hl => ?_)
      refine lv_goto (tgt := 2) hx hb dX10_generatorFor_44 (by decide) ?_
      refine lv_iload_n hx hb dX10_generatorFor_2 rfl (lv_at hl 0 rfl) ?_
      refine lv_iconst (v := 2) hx hb dX10_generatorFor_3 (by decide) ?_
      refine lv_icmp_ge (tgt := 47) hx hb dX10_generatorFor_4 (by decide) (fun c_5 => ?_) (fun c_5 => absurd c_5 (by decide))
      refine lv_ldc (v := (-10000005)) hx hb hown (hts (.constant RX10 25 (-10000005)) (by decide +kernel)) dX10_generatorFor_47 ?_
      subst hQ
      exact ret_i () hx hb hr hK hP hD hS rfl (by unfold f_X10_generatorFor; rw [if_neg c_2, if_neg c_4]; try rfl) dX10_generatorFor_49 hlocks
    · refine lv_aload_n hx hb dX10_generatorFor_22 rfl (lv_at hl 1 rfl) ?_
      refine va_get (D := D) (ci := 10) (v := .ref h1) (C := RX10) (T := TX10) (N := 16) hx hb hts iX10_generatorFor_X10 hown hK hP 0 rfl rfl 0 (by decide) (hts (.fieldLink RX10 7 "BarnPicturesModel" "s" "[I") (by decide +kernel)) (fun _ h9 => h9) rfl dX10_generatorFor_23 ?_
      refine lv_bipush (v := 50) hx hb dX10_generatorFor_26 (by decide) ?_
      refine lv_iconst (v := 2) hx hb dX10_generatorFor_28 (by decide) ?_
      refine lv_iload_n hx hb dX10_generatorFor_29 rfl (lv_at hl 0 rfl) ?_
      refine lv_imul hx hb dX10_generatorFor_30 ?_
      refine lv_iadd hx hb dX10_generatorFor_31 ?_
      refine lv_iconst (v := 1) hx hb dX10_generatorFor_32 (by decide) ?_
      refine lv_iadd hx hb dX10_generatorFor_33 ?_
      refine iald_k hx hb hK hP 1 rfl ((50 + (2 * 1)) + 1) (ix_of (nadd (nadd (nlit 50) (nmul (nlit 2) (nlit 1))) (nlit 1)) (by omega) (by decide)) dX10_generatorFor_34 ?_
      refine lv_iload_n hx hb dX10_generatorFor_35 rfl (lv_at hl 3 rfl) ?_
      refine lv_icmp_lt (tgt := 41) hx hb dX10_generatorFor_36 (by decide) (fun c_6 => ?_) (fun c_6 => ?_)
      · refine lv_iinc (v := 2) (lv' := [(3, .int 2), (0, .ref h), (1, .int x), (2, .int y)]) hx hb dX10_generatorFor_41 hl (k := 0) rfl (by decide) (by decide) rfl (fun ls hl => ?_)
        refine lv_goto (tgt := 2) hx hb dX10_generatorFor_44 (by decide) ?_
        refine lv_iload_n hx hb dX10_generatorFor_2 rfl (lv_at hl 0 rfl) ?_
        refine lv_iconst (v := 2) hx hb dX10_generatorFor_3 (by decide) ?_
        refine lv_icmp_ge (tgt := 47) hx hb dX10_generatorFor_4 (by decide) (fun c_7 => ?_) (fun c_7 => absurd c_7 (by decide))
        refine lv_ldc (v := (-10000005)) hx hb hown (hts (.constant RX10 25 (-10000005)) (by decide +kernel)) dX10_generatorFor_47 ?_
        subst hQ
        exact ret_i () hx hb hr hK hP hD hS rfl (by unfold f_X10_generatorFor; rw [if_neg c_2, if_pos c_4, if_pos c_6]; try rfl) dX10_generatorFor_49 hlocks
      · refine lv_iload_n hx hb dX10_generatorFor_39 rfl (lv_at hl 0 rfl) ?_
        subst hQ
        exact ret_i () hx hb hr hK hP hD hS rfl (by unfold f_X10_generatorFor; rw [if_neg c_2, if_pos c_4, if_neg c_6]; try rfl) dX10_generatorFor_40 hlocks
  · refine lv_aload_n hx hb dX10_generatorFor_22 rfl (lv_at hl 1 rfl) ?_
    refine va_get (D := D) (ci := 10) (v := .ref h1) (C := RX10) (T := TX10) (N := 16) hx hb hts iX10_generatorFor_X10 hown hK hP 0 rfl rfl 0 (by decide) (hts (.fieldLink RX10 7 "BarnPicturesModel" "s" "[I") (by decide +kernel)) (fun _ h9 => h9) rfl dX10_generatorFor_23 ?_
    refine lv_bipush (v := 50) hx hb dX10_generatorFor_26 (by decide) ?_
    refine lv_iconst (v := 2) hx hb dX10_generatorFor_28 (by decide) ?_
    refine lv_iload_n hx hb dX10_generatorFor_29 rfl (lv_at hl 0 rfl) ?_
    refine lv_imul hx hb dX10_generatorFor_30 ?_
    refine lv_iadd hx hb dX10_generatorFor_31 ?_
    refine lv_iconst (v := 1) hx hb dX10_generatorFor_32 (by decide) ?_
    refine lv_iadd hx hb dX10_generatorFor_33 ?_
    refine iald_k hx hb hK hP 1 rfl ((50 + (2 * 0)) + 1) (ix_of (nadd (nadd (nlit 50) (nmul (nlit 2) (nlit 0))) (nlit 1)) (by omega) (by decide)) dX10_generatorFor_34 ?_
    refine lv_iload_n hx hb dX10_generatorFor_35 rfl (lv_at hl 3 rfl) ?_
    refine lv_icmp_lt (tgt := 41) hx hb dX10_generatorFor_36 (by decide) (fun c_8 => ?_) (fun c_8 => ?_)
    · refine lv_iinc (v := 1) (lv' := [(3, .int 1), (0, .ref h), (1, .int x), (2, .int y)]) hx hb dX10_generatorFor_41 hl (k := 0) rfl (by decide) (by decide) rfl (fun ls hl => ?_)
      refine lv_goto (tgt := 2) hx hb dX10_generatorFor_44 (by decide) ?_
      refine lv_iload_n hx hb dX10_generatorFor_2 rfl (lv_at hl 0 rfl) ?_
      refine lv_iconst (v := 2) hx hb dX10_generatorFor_3 (by decide) ?_
      refine lv_icmp_ge (tgt := 47) hx hb dX10_generatorFor_4 (by decide) (fun c_9 => absurd c_9 (by decide)) (fun c_9 => ?_)
      refine lv_aload_n hx hb dX10_generatorFor_7 rfl (lv_at hl 1 rfl) ?_
      refine va_get (D := D) (ci := 10) (v := .ref h1) (C := RX10) (T := TX10) (N := 16) hx hb hts iX10_generatorFor_X10 hown hK hP 0 rfl rfl 0 (by decide) (hts (.fieldLink RX10 7 "BarnPicturesModel" "s" "[I") (by decide +kernel)) (fun _ h9 => h9) rfl dX10_generatorFor_8 ?_
      refine lv_bipush (v := 50) hx hb dX10_generatorFor_11 (by decide) ?_
      refine lv_iconst (v := 2) hx hb dX10_generatorFor_13 (by decide) ?_
      refine lv_iload_n hx hb dX10_generatorFor_14 rfl (lv_at hl 0 rfl) ?_
      refine lv_imul hx hb dX10_generatorFor_15 ?_
      refine lv_iadd hx hb dX10_generatorFor_16 ?_
      refine iald_k hx hb hK hP 1 rfl (50 + (2 * 1)) (ix_of (nadd (nlit 50) (nmul (nlit 2) (nlit 1))) (by omega) (by decide)) dX10_generatorFor_17 ?_
      refine lv_iload_n hx hb dX10_generatorFor_18 rfl (lv_at hl 2 rfl) ?_
      refine lv_icmp_ne (tgt := 41) hx hb dX10_generatorFor_19 (by decide) (fun c_10 => ?_) (fun c_10 => ?_)
      · refine lv_iinc (v := 2) (lv' := [(3, .int 2), (0, .ref h), (1, .int x), (2, .int y)]) hx hb dX10_generatorFor_41 hl (k := 0) rfl (by decide) (by decide) rfl (fun ls hl => ?_)
        refine lv_goto (tgt := 2) hx hb dX10_generatorFor_44 (by decide) ?_
        refine lv_iload_n hx hb dX10_generatorFor_2 rfl (lv_at hl 0 rfl) ?_
        refine lv_iconst (v := 2) hx hb dX10_generatorFor_3 (by decide) ?_
        refine lv_icmp_ge (tgt := 47) hx hb dX10_generatorFor_4 (by decide) (fun c_11 => ?_) (fun c_11 => absurd c_11 (by decide))
        refine lv_ldc (v := (-10000005)) hx hb hown (hts (.constant RX10 25 (-10000005)) (by decide +kernel)) dX10_generatorFor_47 ?_
        subst hQ
        exact ret_i () hx hb hr hK hP hD hS rfl (by unfold f_X10_generatorFor; rw [if_pos c_2, if_pos c_8, if_neg c_10]; try rfl) dX10_generatorFor_49 hlocks
      · refine lv_aload_n hx hb dX10_generatorFor_22 rfl (lv_at hl 1 rfl) ?_
        refine va_get (D := D) (ci := 10) (v := .ref h1) (C := RX10) (T := TX10) (N := 16) hx hb hts iX10_generatorFor_X10 hown hK hP 0 rfl rfl 0 (by decide) (hts (.fieldLink RX10 7 "BarnPicturesModel" "s" "[I") (by decide +kernel)) (fun _ h9 => h9) rfl dX10_generatorFor_23 ?_
        refine lv_bipush (v := 50) hx hb dX10_generatorFor_26 (by decide) ?_
        refine lv_iconst (v := 2) hx hb dX10_generatorFor_28 (by decide) ?_
        refine lv_iload_n hx hb dX10_generatorFor_29 rfl (lv_at hl 0 rfl) ?_
        refine lv_imul hx hb dX10_generatorFor_30 ?_
        refine lv_iadd hx hb dX10_generatorFor_31 ?_
        refine lv_iconst (v := 1) hx hb dX10_generatorFor_32 (by decide) ?_
        refine lv_iadd hx hb dX10_generatorFor_33 ?_
        refine iald_k hx hb hK hP 1 rfl ((50 + (2 * 1)) + 1) (ix_of (nadd (nadd (nlit 50) (nmul (nlit 2) (nlit 1))) (nlit 1)) (by omega) (by decide)) dX10_generatorFor_34 ?_
        refine lv_iload_n hx hb dX10_generatorFor_35 rfl (lv_at hl 3 rfl) ?_
        refine lv_icmp_lt (tgt := 41) hx hb dX10_generatorFor_36 (by decide) (fun c_12 => ?_) (fun c_12 => ?_)
        · refine lv_iinc (v := 2) (lv' := [(3, .int 2), (0, .ref h), (1, .int x), (2, .int y)]) hx hb dX10_generatorFor_41 hl (k := 0) rfl (by decide) (by decide) rfl (fun ls hl => ?_)
          refine lv_goto (tgt := 2) hx hb dX10_generatorFor_44 (by decide) ?_
          refine lv_iload_n hx hb dX10_generatorFor_2 rfl (lv_at hl 0 rfl) ?_
          refine lv_iconst (v := 2) hx hb dX10_generatorFor_3 (by decide) ?_
          refine lv_icmp_ge (tgt := 47) hx hb dX10_generatorFor_4 (by decide) (fun c_13 => ?_) (fun c_13 => absurd c_13 (by decide))
          refine lv_ldc (v := (-10000005)) hx hb hown (hts (.constant RX10 25 (-10000005)) (by decide +kernel)) dX10_generatorFor_47 ?_
          subst hQ
          exact ret_i () hx hb hr hK hP hD hS rfl (by unfold f_X10_generatorFor; rw [if_pos c_2, if_pos c_8, if_pos c_10, if_pos c_12]; try rfl) dX10_generatorFor_49 hlocks
        · refine lv_iload_n hx hb dX10_generatorFor_39 rfl (lv_at hl 0 rfl) ?_
          subst hQ
          exact ret_i () hx hb hr hK hP hD hS rfl (by unfold f_X10_generatorFor; rw [if_pos c_2, if_pos c_8, if_pos c_10, if_neg c_12]; try rfl) dX10_generatorFor_40 hlocks
    · refine lv_iload_n hx hb dX10_generatorFor_39 rfl (lv_at hl 0 rfl) ?_
      subst hQ
      exact ret_i () hx hb hr hK hP hD hS rfl (by unfold f_X10_generatorFor; rw [if_pos c_2, if_neg c_8]; try rfl) dX10_generatorFor_40 hlocks

theorem iX10_why_X10 : ∀ w ∈ wsX100, w ∈ wsX10_why := by decide +kernel
def f_X10_why (s : (Nat → Int32)) (x : Int32) (xn : Nat) : Int32 := if (s (57 + xn)) = 1 then 1 else if (f_X10_reels s x 0) = 0 then 2 else if (f_X10_generatorFor s x 0) = (-10000005) then 3 else if (f_X10_generatorFor s x (f_X10_reels s x 1)) = (-10000005) then 4 else 0
set_option maxRecDepth 100000 in
set_option maxHeartbeats 1000000 in
theorem c_X10_why (l : Launch) (D : va_G) (z : ClassId × ClassId × ClassId) (h h1 h2 h3 h4 h5 : Nat) (v : MV) (x : Int32) (xn : Nat) (ee_x : x = nI xn) (bb_x : xn < 5) (sz : Nat) : CI l yX10_why wsX10_why 2 48 0 0 [.ref h, .int x] D z (wX10 z h h1 h2 h3 h4 h5 v) sz (E0) (fun (zr : Int32) (_ : Unit) => zr = f_X10_why v.1 x xn) (fun _ => wX10 z h h1 h2 h3 h4 h5 v) := by
  refine met_i cX10_why 2 (some .int) (by decide) rfl (Nat.le_of_ble_eq_true rfl) ?_
  intro p e s m args below meth c R Q hx hb hr hml hts hown hlocks hin hRf hRl hRc hRs hc0 hs0 A H hA hP hK hD hS hE hQ ls hl
  have hl : lv_has ls 2 [(0, .ref h), (1, .int x)] := hl
  have hP : va_P D vwCl [(h, .inr (10, [.ref h1, .ref h2, .ref h3, .int v.2.2.2.1, .ref h4, .int v.2.2.2.2.2.1, .ref h5, .int v.2.2.2.2.2.2.2.1, .int v.2.2.2.2.2.2.2.2.1, .int v.2.2.2.2.2.2.2.2.2.1, .int v.2.2.2.2.2.2.2.2.2.2.1, .int v.2.2.2.2.2.2.2.2.2.2.2.1, .int v.2.2.2.2.2.2.2.2.2.2.2.2.1, .int v.2.2.2.2.2.2.2.2.2.2.2.2.2.1, .int v.2.2.2.2.2.2.2.2.2.2.2.2.2.2.1, .int v.2.2.2.2.2.2.2.2.2.2.2.2.2.2.2])), (h1, .inl (z.1, 108, .inl v.1)), (h2, .inl (z.1, 108, .inl v.2.1)), (h3, .inl (z.1, 432, .inl v.2.2.1)), (h4, .inl (z.1, 108, .inl v.2.2.2.2.1)), (h5, .inl (z.1, 80, .inl v.2.2.2.2.2.2.1))] H := hP
  have hD : va_D A [(h, .inr (10, [.ref h1, .ref h2, .ref h3, .int v.2.2.2.1, .ref h4, .int v.2.2.2.2.2.1, .ref h5, .int v.2.2.2.2.2.2.2.1, .int v.2.2.2.2.2.2.2.2.1, .int v.2.2.2.2.2.2.2.2.2.1, .int v.2.2.2.2.2.2.2.2.2.2.1, .int v.2.2.2.2.2.2.2.2.2.2.2.1, .int v.2.2.2.2.2.2.2.2.2.2.2.2.1, .int v.2.2.2.2.2.2.2.2.2.2.2.2.2.1, .int v.2.2.2.2.2.2.2.2.2.2.2.2.2.2.1, .int v.2.2.2.2.2.2.2.2.2.2.2.2.2.2.2])), (h1, .inl (z.1, 108, .inl v.1)), (h2, .inl (z.1, 108, .inl v.2.1)), (h3, .inl (z.1, 432, .inl v.2.2.1)), (h4, .inl (z.1, 108, .inl v.2.2.2.2.1)), (h5, .inl (z.1, 80, .inl v.2.2.2.2.2.2.1))] := hD
  have hown : s.vm.findClass RX10 = some m.cls := hown
  refine lv_aload_n hx hb dX10_why_0 rfl (lv_at hl 0 rfl) ?_
  refine va_get (D := D) (ci := 10) (v := .ref h1) (C := RX10) (T := TX10) (N := 16) hx hb hts iX10_why_X10 hown hK hP 0 rfl rfl 0 (by decide) (hts (.fieldLink RX10 7 "BarnPicturesModel" "s" "[I") (by decide +kernel)) (fun _ h9 => h9) rfl dX10_why_1 ?_
  refine lv_bipush (v := 57) hx hb dX10_why_4 (by decide) ?_
  refine lv_iload_n hx hb dX10_why_6 rfl (lv_at hl 1 rfl) ?_
  refine lv_iadd hx hb dX10_why_7 ?_
  refine iald_k hx hb hK hP 1 rfl (57 + xn) (ix_of (nadd (nlit 57) ee_x) (by omega) (by decide)) dX10_why_8 ?_
  refine lv_iconst (v := 1) hx hb dX10_why_9 (by decide) ?_
  refine lv_icmp_ne (tgt := 15) hx hb dX10_why_10 (by decide) (fun c_1 => ?_) (fun c_1 => ?_)
  · refine lv_aload_n hx hb dX10_why_15 rfl (lv_at hl 0 rfl) ?_
    refine lv_iload_n hx hb dX10_why_16 rfl (lv_at hl 1 rfl) ?_
    refine lv_iconst (v := 0) hx hb dX10_why_17 (by decide) ?_
    refine call_i [] (fun _ => [(h, .inr (10, [.ref h1, .ref h2, .ref h3, .int v.2.2.2.1, .ref h4, .int v.2.2.2.2.2.1, .ref h5, .int v.2.2.2.2.2.2.2.1, .int v.2.2.2.2.2.2.2.2.1, .int v.2.2.2.2.2.2.2.2.2.1, .int v.2.2.2.2.2.2.2.2.2.2.1, .int v.2.2.2.2.2.2.2.2.2.2.2.1, .int v.2.2.2.2.2.2.2.2.2.2.2.2.1, .int v.2.2.2.2.2.2.2.2.2.2.2.2.2.1, .int v.2.2.2.2.2.2.2.2.2.2.2.2.2.2.1, .int v.2.2.2.2.2.2.2.2.2.2.2.2.2.2.2])), (h1, .inl (z.1, 108, .inl v.1)), (h2, .inl (z.1, 108, .inl v.2.1)), (h3, .inl (z.1, 432, .inl v.2.2.1)), (h4, .inl (z.1, 108, .inl v.2.2.2.2.1)), (h5, .inl (z.1, 80, .inl v.2.2.2.2.2.2.1))]) (rV (As := [.int x, .int 0]) (rest := []) ⟨hx, hb, hml, hown, hts⟩ (c_X10_reels l D z h h1 h2 h3 h4 h5 v x 0 H.size) (cwV 2 hts gX10_why_X10_reels rfl rfl rfl (by decide +kernel) ⟨Nat.le_trans (by decide) hRf, Nat.le_trans (by decide) hRl⟩) e0_ok e_0 hK hP hD [0, 1, 2, 3, 4, 5] (by decide) rfl (va_recv hK hP (ci := 10) (q0 := 0) rfl rfl) rfl hl.1 rfl (Nat.le_of_ble_eq_true rfl) dX10_why_18 ⟨Nat.zero_le _, Nat.zero_le _⟩) hK hP hD hS hA [0, 1, 2, 3, 4, 5] [] [0, 1, 2, 3, 4, 5] rfl rfl (by decide) (by decide) (by decide) (fun _ => rfl) (fun zr zu H locs hw hP hD hS => ?_)
    subst hw
    have hP : va_P D vwCl [(h, .inr (10, [.ref h1, .ref h2, .ref h3, .int v.2.2.2.1, .ref h4, .int v.2.2.2.2.2.1, .ref h5, .int v.2.2.2.2.2.2.2.1, .int v.2.2.2.2.2.2.2.2.1, .int v.2.2.2.2.2.2.2.2.2.1, .int v.2.2.2.2.2.2.2.2.2.2.1, .int v.2.2.2.2.2.2.2.2.2.2.2.1, .int v.2.2.2.2.2.2.2.2.2.2.2.2.1, .int v.2.2.2.2.2.2.2.2.2.2.2.2.2.1, .int v.2.2.2.2.2.2.2.2.2.2.2.2.2.2.1, .int v.2.2.2.2.2.2.2.2.2.2.2.2.2.2.2])), (h1, .inl (z.1, 108, .inl v.1)), (h2, .inl (z.1, 108, .inl v.2.1)), (h3, .inl (z.1, 432, .inl v.2.2.1)), (h4, .inl (z.1, 108, .inl v.2.2.2.2.1)), (h5, .inl (z.1, 80, .inl v.2.2.2.2.2.2.1))] H := hP
    have hD : va_D A [(h, .inr (10, [.ref h1, .ref h2, .ref h3, .int v.2.2.2.1, .ref h4, .int v.2.2.2.2.2.1, .ref h5, .int v.2.2.2.2.2.2.2.1, .int v.2.2.2.2.2.2.2.2.1, .int v.2.2.2.2.2.2.2.2.2.1, .int v.2.2.2.2.2.2.2.2.2.2.1, .int v.2.2.2.2.2.2.2.2.2.2.2.1, .int v.2.2.2.2.2.2.2.2.2.2.2.2.1, .int v.2.2.2.2.2.2.2.2.2.2.2.2.2.1, .int v.2.2.2.2.2.2.2.2.2.2.2.2.2.2.1, .int v.2.2.2.2.2.2.2.2.2.2.2.2.2.2.2])), (h1, .inl (z.1, 108, .inl v.1)), (h2, .inl (z.1, 108, .inl v.2.1)), (h3, .inl (z.1, 432, .inl v.2.2.1)), (h4, .inl (z.1, 108, .inl v.2.2.2.2.1)), (h5, .inl (z.1, 80, .inl v.2.2.2.2.2.2.1))] := hD
    refine lv_if_ne (tgt := 26) hx hb dX10_why_21 (by decide) (fun c_2 => ?_) (fun c_2 => ?_)
    · refine lv_aload_n hx hb dX10_why_26 rfl (lv_at hl 0 rfl) ?_
      refine lv_iload_n hx hb dX10_why_27 rfl (lv_at hl 1 rfl) ?_
      refine lv_iconst (v := 0) hx hb dX10_why_28 (by decide) ?_
      refine call_i [] (fun _ => [(h, .inr (10, [.ref h1, .ref h2, .ref h3, .int v.2.2.2.1, .ref h4, .int v.2.2.2.2.2.1, .ref h5, .int v.2.2.2.2.2.2.2.1, .int v.2.2.2.2.2.2.2.2.1, .int v.2.2.2.2.2.2.2.2.2.1, .int v.2.2.2.2.2.2.2.2.2.2.1, .int v.2.2.2.2.2.2.2.2.2.2.2.1, .int v.2.2.2.2.2.2.2.2.2.2.2.2.1, .int v.2.2.2.2.2.2.2.2.2.2.2.2.2.1, .int v.2.2.2.2.2.2.2.2.2.2.2.2.2.2.1, .int v.2.2.2.2.2.2.2.2.2.2.2.2.2.2.2])), (h1, .inl (z.1, 108, .inl v.1)), (h2, .inl (z.1, 108, .inl v.2.1)), (h3, .inl (z.1, 432, .inl v.2.2.1)), (h4, .inl (z.1, 108, .inl v.2.2.2.2.1)), (h5, .inl (z.1, 80, .inl v.2.2.2.2.2.2.1))]) (rV (As := [.int x, .int 0]) (rest := []) ⟨hx, hb, hml, hown, hts⟩ (c_X10_generatorFor l D z h h1 h2 h3 h4 h5 v x 0 H.size) (cwV 2 hts gX10_why_X10_generatorFor rfl rfl rfl (by decide +kernel) ⟨Nat.le_trans (by decide) hRf, Nat.le_trans (by decide) hRl⟩) e0_ok e_0 hK hP hD [0, 1, 2, 3, 4, 5] (by decide) rfl (va_recv hK hP (ci := 10) (q0 := 0) rfl rfl) rfl hl.1 rfl (Nat.le_of_ble_eq_true rfl) dX10_why_29 ⟨Nat.zero_le _, Nat.zero_le _⟩) hK hP hD hS hA [0, 1, 2, 3, 4, 5] [] [0, 1, 2, 3, 4, 5] rfl rfl (by decide) (by decide) (by decide) (fun _ => rfl) (fun zr zu H locs hw hP hD hS => ?_)
      subst hw
      have hP : va_P D vwCl [(h, .inr (10, [.ref h1, .ref h2, .ref h3, .int v.2.2.2.1, .ref h4, .int v.2.2.2.2.2.1, .ref h5, .int v.2.2.2.2.2.2.2.1, .int v.2.2.2.2.2.2.2.2.1, .int v.2.2.2.2.2.2.2.2.2.1, .int v.2.2.2.2.2.2.2.2.2.2.1, .int v.2.2.2.2.2.2.2.2.2.2.2.1, .int v.2.2.2.2.2.2.2.2.2.2.2.2.1, .int v.2.2.2.2.2.2.2.2.2.2.2.2.2.1, .int v.2.2.2.2.2.2.2.2.2.2.2.2.2.2.1, .int v.2.2.2.2.2.2.2.2.2.2.2.2.2.2.2])), (h1, .inl (z.1, 108, .inl v.1)), (h2, .inl (z.1, 108, .inl v.2.1)), (h3, .inl (z.1, 432, .inl v.2.2.1)), (h4, .inl (z.1, 108, .inl v.2.2.2.2.1)), (h5, .inl (z.1, 80, .inl v.2.2.2.2.2.2.1))] H := hP
      have hD : va_D A [(h, .inr (10, [.ref h1, .ref h2, .ref h3, .int v.2.2.2.1, .ref h4, .int v.2.2.2.2.2.1, .ref h5, .int v.2.2.2.2.2.2.2.1, .int v.2.2.2.2.2.2.2.2.1, .int v.2.2.2.2.2.2.2.2.2.1, .int v.2.2.2.2.2.2.2.2.2.2.1, .int v.2.2.2.2.2.2.2.2.2.2.2.1, .int v.2.2.2.2.2.2.2.2.2.2.2.2.1, .int v.2.2.2.2.2.2.2.2.2.2.2.2.2.1, .int v.2.2.2.2.2.2.2.2.2.2.2.2.2.2.1, .int v.2.2.2.2.2.2.2.2.2.2.2.2.2.2.2])), (h1, .inl (z.1, 108, .inl v.1)), (h2, .inl (z.1, 108, .inl v.2.1)), (h3, .inl (z.1, 432, .inl v.2.2.1)), (h4, .inl (z.1, 108, .inl v.2.2.2.2.1)), (h5, .inl (z.1, 80, .inl v.2.2.2.2.2.2.1))] := hD
      refine lv_ldc (v := (-10000005)) hx hb hown (hts (.constant RX10 25 (-10000005)) (by decide +kernel)) dX10_why_32 ?_
      refine lv_icmp_ne (tgt := 41) hx hb dX10_why_34 (by decide) (fun c_3 => ?_) (fun c_3 => ?_)
      · refine lv_aload_n hx hb dX10_why_41 rfl (lv_at hl 0 rfl) ?_
        refine lv_iload_n hx hb dX10_why_42 rfl (lv_at hl 1 rfl) ?_
        refine lv_aload_n hx hb dX10_why_43 rfl (lv_at hl 0 rfl) ?_
        refine lv_iload_n hx hb dX10_why_44 rfl (lv_at hl 1 rfl) ?_
        refine lv_iconst (v := 1) hx hb dX10_why_45 (by decide) ?_
        refine call_i [] (fun _ => [(h, .inr (10, [.ref h1, .ref h2, .ref h3, .int v.2.2.2.1, .ref h4, .int v.2.2.2.2.2.1, .ref h5, .int v.2.2.2.2.2.2.2.1, .int v.2.2.2.2.2.2.2.2.1, .int v.2.2.2.2.2.2.2.2.2.1, .int v.2.2.2.2.2.2.2.2.2.2.1, .int v.2.2.2.2.2.2.2.2.2.2.2.1, .int v.2.2.2.2.2.2.2.2.2.2.2.2.1, .int v.2.2.2.2.2.2.2.2.2.2.2.2.2.1, .int v.2.2.2.2.2.2.2.2.2.2.2.2.2.2.1, .int v.2.2.2.2.2.2.2.2.2.2.2.2.2.2.2])), (h1, .inl (z.1, 108, .inl v.1)), (h2, .inl (z.1, 108, .inl v.2.1)), (h3, .inl (z.1, 432, .inl v.2.2.1)), (h4, .inl (z.1, 108, .inl v.2.2.2.2.1)), (h5, .inl (z.1, 80, .inl v.2.2.2.2.2.2.1))]) (rV (As := [.int x, .int 1]) (rest := [.int x, .ref h]) ⟨hx, hb, hml, hown, hts⟩ (c_X10_reels l D z h h1 h2 h3 h4 h5 v x 1 H.size) (cwV 2 hts gX10_why_X10_reels rfl rfl rfl (by decide +kernel) ⟨Nat.le_trans (by decide) hRf, Nat.le_trans (by decide) hRl⟩) e0_ok e_0 hK hP hD [0, 1, 2, 3, 4, 5] (by decide) rfl (va_recv hK hP (ci := 10) (q0 := 0) rfl rfl) rfl hl.1 rfl (Nat.le_of_ble_eq_true rfl) dX10_why_46 ⟨Nat.zero_le _, Nat.zero_le _⟩) hK hP hD hS hA [0, 1, 2, 3, 4, 5] [] [0, 1, 2, 3, 4, 5] rfl rfl (by decide) (by decide) (by decide) (fun _ => rfl) (fun zr zu H locs hw hP hD hS => ?_)
        subst hw
        have hP : va_P D vwCl [(h, .inr (10, [.ref h1, .ref h2, .ref h3, .int v.2.2.2.1, .ref h4, .int v.2.2.2.2.2.1, .ref h5, .int v.2.2.2.2.2.2.2.1, .int v.2.2.2.2.2.2.2.2.1, .int v.2.2.2.2.2.2.2.2.2.1, .int v.2.2.2.2.2.2.2.2.2.2.1, .int v.2.2.2.2.2.2.2.2.2.2.2.1, .int v.2.2.2.2.2.2.2.2.2.2.2.2.1, .int v.2.2.2.2.2.2.2.2.2.2.2.2.2.1, .int v.2.2.2.2.2.2.2.2.2.2.2.2.2.2.1, .int v.2.2.2.2.2.2.2.2.2.2.2.2.2.2.2])), (h1, .inl (z.1, 108, .inl v.1)), (h2, .inl (z.1, 108, .inl v.2.1)), (h3, .inl (z.1, 432, .inl v.2.2.1)), (h4, .inl (z.1, 108, .inl v.2.2.2.2.1)), (h5, .inl (z.1, 80, .inl v.2.2.2.2.2.2.1))] H := hP
        have hD : va_D A [(h, .inr (10, [.ref h1, .ref h2, .ref h3, .int v.2.2.2.1, .ref h4, .int v.2.2.2.2.2.1, .ref h5, .int v.2.2.2.2.2.2.2.1, .int v.2.2.2.2.2.2.2.2.1, .int v.2.2.2.2.2.2.2.2.2.1, .int v.2.2.2.2.2.2.2.2.2.2.1, .int v.2.2.2.2.2.2.2.2.2.2.2.1, .int v.2.2.2.2.2.2.2.2.2.2.2.2.1, .int v.2.2.2.2.2.2.2.2.2.2.2.2.2.1, .int v.2.2.2.2.2.2.2.2.2.2.2.2.2.2.1, .int v.2.2.2.2.2.2.2.2.2.2.2.2.2.2.2])), (h1, .inl (z.1, 108, .inl v.1)), (h2, .inl (z.1, 108, .inl v.2.1)), (h3, .inl (z.1, 432, .inl v.2.2.1)), (h4, .inl (z.1, 108, .inl v.2.2.2.2.1)), (h5, .inl (z.1, 80, .inl v.2.2.2.2.2.2.1))] := hD
        refine call_i [] (fun _ => [(h, .inr (10, [.ref h1, .ref h2, .ref h3, .int v.2.2.2.1, .ref h4, .int v.2.2.2.2.2.1, .ref h5, .int v.2.2.2.2.2.2.2.1, .int v.2.2.2.2.2.2.2.2.1, .int v.2.2.2.2.2.2.2.2.2.1, .int v.2.2.2.2.2.2.2.2.2.2.1, .int v.2.2.2.2.2.2.2.2.2.2.2.1, .int v.2.2.2.2.2.2.2.2.2.2.2.2.1, .int v.2.2.2.2.2.2.2.2.2.2.2.2.2.1, .int v.2.2.2.2.2.2.2.2.2.2.2.2.2.2.1, .int v.2.2.2.2.2.2.2.2.2.2.2.2.2.2.2])), (h1, .inl (z.1, 108, .inl v.1)), (h2, .inl (z.1, 108, .inl v.2.1)), (h3, .inl (z.1, 432, .inl v.2.2.1)), (h4, .inl (z.1, 108, .inl v.2.2.2.2.1)), (h5, .inl (z.1, 80, .inl v.2.2.2.2.2.2.1))]) (rV (As := [.int x, .int (f_X10_reels v.1 x 1)]) (rest := []) ⟨hx, hb, hml, hown, hts⟩ (c_X10_generatorFor l D z h h1 h2 h3 h4 h5 v x (f_X10_reels v.1 x 1) H.size) (cwV 2 hts gX10_why_X10_generatorFor rfl rfl rfl (by decide +kernel) ⟨Nat.le_trans (by decide) hRf, Nat.le_trans (by decide) hRl⟩) e0_ok e_0 hK hP hD [0, 1, 2, 3, 4, 5] (by decide) rfl (va_recv hK hP (ci := 10) (q0 := 0) rfl rfl) rfl hl.1 rfl (Nat.le_of_ble_eq_true rfl) dX10_why_49 ⟨Nat.zero_le _, Nat.zero_le _⟩) hK hP hD hS hA [0, 1, 2, 3, 4, 5] [] [0, 1, 2, 3, 4, 5] rfl rfl (by decide) (by decide) (by decide) (fun _ => rfl) (fun zr zu H locs hw hP hD hS => ?_)
        subst hw
        have hP : va_P D vwCl [(h, .inr (10, [.ref h1, .ref h2, .ref h3, .int v.2.2.2.1, .ref h4, .int v.2.2.2.2.2.1, .ref h5, .int v.2.2.2.2.2.2.2.1, .int v.2.2.2.2.2.2.2.2.1, .int v.2.2.2.2.2.2.2.2.2.1, .int v.2.2.2.2.2.2.2.2.2.2.1, .int v.2.2.2.2.2.2.2.2.2.2.2.1, .int v.2.2.2.2.2.2.2.2.2.2.2.2.1, .int v.2.2.2.2.2.2.2.2.2.2.2.2.2.1, .int v.2.2.2.2.2.2.2.2.2.2.2.2.2.2.1, .int v.2.2.2.2.2.2.2.2.2.2.2.2.2.2.2])), (h1, .inl (z.1, 108, .inl v.1)), (h2, .inl (z.1, 108, .inl v.2.1)), (h3, .inl (z.1, 432, .inl v.2.2.1)), (h4, .inl (z.1, 108, .inl v.2.2.2.2.1)), (h5, .inl (z.1, 80, .inl v.2.2.2.2.2.2.1))] H := hP
        have hD : va_D A [(h, .inr (10, [.ref h1, .ref h2, .ref h3, .int v.2.2.2.1, .ref h4, .int v.2.2.2.2.2.1, .ref h5, .int v.2.2.2.2.2.2.2.1, .int v.2.2.2.2.2.2.2.2.1, .int v.2.2.2.2.2.2.2.2.2.1, .int v.2.2.2.2.2.2.2.2.2.2.1, .int v.2.2.2.2.2.2.2.2.2.2.2.1, .int v.2.2.2.2.2.2.2.2.2.2.2.2.1, .int v.2.2.2.2.2.2.2.2.2.2.2.2.2.1, .int v.2.2.2.2.2.2.2.2.2.2.2.2.2.2.1, .int v.2.2.2.2.2.2.2.2.2.2.2.2.2.2.2])), (h1, .inl (z.1, 108, .inl v.1)), (h2, .inl (z.1, 108, .inl v.2.1)), (h3, .inl (z.1, 432, .inl v.2.2.1)), (h4, .inl (z.1, 108, .inl v.2.2.2.2.1)), (h5, .inl (z.1, 80, .inl v.2.2.2.2.2.2.1))] := hD
        refine lv_ldc (v := (-10000005)) hx hb hown (hts (.constant RX10 25 (-10000005)) (by decide +kernel)) dX10_why_52 ?_
        refine lv_icmp_ne (tgt := 61) hx hb dX10_why_54 (by decide) (fun c_4 => ?_) (fun c_4 => ?_)
        · refine lv_iconst (v := 0) hx hb dX10_why_61 (by decide) ?_
          subst hQ
          exact ret_i () hx hb hr hK hP hD hS rfl (by unfold f_X10_why; rw [if_neg c_1, if_neg c_2, if_neg c_3, if_neg c_4]; try rfl) dX10_why_62 hlocks
        · refine lv_iconst (v := 4) hx hb dX10_why_57 (by decide) ?_
          refine lv_goto (tgt := 62) hx hb dX10_why_58 (by decide) ?_
          subst hQ
          exact ret_i () hx hb hr hK hP hD hS rfl (by unfold f_X10_why; rw [if_neg c_1, if_neg c_2, if_neg c_3, if_pos c_4]; try rfl) dX10_why_62 hlocks
      · refine lv_iconst (v := 3) hx hb dX10_why_37 (by decide) ?_
        refine lv_goto (tgt := 62) hx hb dX10_why_38 (by decide) ?_
        subst hQ
        exact ret_i () hx hb hr hK hP hD hS rfl (by unfold f_X10_why; rw [if_neg c_1, if_neg c_2, if_pos c_3]; try rfl) dX10_why_62 hlocks
    · refine lv_iconst (v := 2) hx hb dX10_why_24 (by decide) ?_
      subst hQ
      exact ret_i () hx hb hr hK hP hD hS rfl (by unfold f_X10_why; rw [if_neg c_1, if_pos c_2]; try rfl) dX10_why_25 hlocks
  · refine lv_iconst (v := 1) hx hb dX10_why_13 (by decide) ?_
    subst hQ
    exact ret_i () hx hb hr hK hP hD hS rfl (by unfold f_X10_why; rw [if_pos c_1]; try rfl) dX10_why_14 hlocks

def f_X10_peopleAt (s : (Nat → Int32)) (x : Int32) : Int32 := if (f_X10_reels s x 0) = 0 then 0 else if 0 ≤ ((((f_X10_seats x) * (f_X10_reels s x 3)) / (f_X10_reels s x 0)) - ((f_X10_reels s x 2) / 10)) then ((((f_X10_seats x) * (f_X10_reels s x 3)) / (f_X10_reels s x 0)) - ((f_X10_reels s x 2) / 10)) else 0
set_option maxRecDepth 100000 in
set_option maxHeartbeats 1000000 in
theorem c_X10_peopleAt (l : Launch) (D : va_G) (z : ClassId × ClassId × ClassId) (h h1 h2 h3 h4 h5 : Nat) (v : MV) (x : Int32) (sz : Nat) : CI l yX10_peopleAt wsX10_peopleAt 2 48 0 0 [.ref h, .int x] D z (wX10 z h h1 h2 h3 h4 h5 v) sz (E0) (fun (zr : Int32) (_ : Unit) => zr = f_X10_peopleAt v.1 x) (fun _ => wX10 z h h1 h2 h3 h4 h5 v) := by
  refine met_i cX10_peopleAt 4 (some .int) (by decide) rfl (Nat.le_of_ble_eq_true rfl) ?_
  intro p e s m args below meth c R Q hx hb hr hml hts hown hlocks hin hRf hRl hRc hRs hc0 hs0 A H hA hP hK hD hS hE hQ ls hl
  have hl : lv_has ls 4 [(0, .ref h), (1, .int x)] := hl
  have hP : va_P D vwCl [(h, .inr (10, [.ref h1, .ref h2, .ref h3, .int v.2.2.2.1, .ref h4, .int v.2.2.2.2.2.1, .ref h5, .int v.2.2.2.2.2.2.2.1, .int v.2.2.2.2.2.2.2.2.1, .int v.2.2.2.2.2.2.2.2.2.1, .int v.2.2.2.2.2.2.2.2.2.2.1, .int v.2.2.2.2.2.2.2.2.2.2.2.1, .int v.2.2.2.2.2.2.2.2.2.2.2.2.1, .int v.2.2.2.2.2.2.2.2.2.2.2.2.2.1, .int v.2.2.2.2.2.2.2.2.2.2.2.2.2.2.1, .int v.2.2.2.2.2.2.2.2.2.2.2.2.2.2.2])), (h1, .inl (z.1, 108, .inl v.1)), (h2, .inl (z.1, 108, .inl v.2.1)), (h3, .inl (z.1, 432, .inl v.2.2.1)), (h4, .inl (z.1, 108, .inl v.2.2.2.2.1)), (h5, .inl (z.1, 80, .inl v.2.2.2.2.2.2.1))] H := hP
  have hD : va_D A [(h, .inr (10, [.ref h1, .ref h2, .ref h3, .int v.2.2.2.1, .ref h4, .int v.2.2.2.2.2.1, .ref h5, .int v.2.2.2.2.2.2.2.1, .int v.2.2.2.2.2.2.2.2.1, .int v.2.2.2.2.2.2.2.2.2.1, .int v.2.2.2.2.2.2.2.2.2.2.1, .int v.2.2.2.2.2.2.2.2.2.2.2.1, .int v.2.2.2.2.2.2.2.2.2.2.2.2.1, .int v.2.2.2.2.2.2.2.2.2.2.2.2.2.1, .int v.2.2.2.2.2.2.2.2.2.2.2.2.2.2.1, .int v.2.2.2.2.2.2.2.2.2.2.2.2.2.2.2])), (h1, .inl (z.1, 108, .inl v.1)), (h2, .inl (z.1, 108, .inl v.2.1)), (h3, .inl (z.1, 432, .inl v.2.2.1)), (h4, .inl (z.1, 108, .inl v.2.2.2.2.1)), (h5, .inl (z.1, 80, .inl v.2.2.2.2.2.2.1))] := hD
  have hown : s.vm.findClass RX10 = some m.cls := hown
  refine lv_aload_n hx hb dX10_peopleAt_0 rfl (lv_at hl 0 rfl) ?_
  refine lv_iload_n hx hb dX10_peopleAt_1 rfl (lv_at hl 1 rfl) ?_
  refine lv_iconst (v := 0) hx hb dX10_peopleAt_2 (by decide) ?_
  refine call_i [] (fun _ => [(h, .inr (10, [.ref h1, .ref h2, .ref h3, .int v.2.2.2.1, .ref h4, .int v.2.2.2.2.2.1, .ref h5, .int v.2.2.2.2.2.2.2.1, .int v.2.2.2.2.2.2.2.2.1, .int v.2.2.2.2.2.2.2.2.2.1, .int v.2.2.2.2.2.2.2.2.2.2.1, .int v.2.2.2.2.2.2.2.2.2.2.2.1, .int v.2.2.2.2.2.2.2.2.2.2.2.2.1, .int v.2.2.2.2.2.2.2.2.2.2.2.2.2.1, .int v.2.2.2.2.2.2.2.2.2.2.2.2.2.2.1, .int v.2.2.2.2.2.2.2.2.2.2.2.2.2.2.2])), (h1, .inl (z.1, 108, .inl v.1)), (h2, .inl (z.1, 108, .inl v.2.1)), (h3, .inl (z.1, 432, .inl v.2.2.1)), (h4, .inl (z.1, 108, .inl v.2.2.2.2.1)), (h5, .inl (z.1, 80, .inl v.2.2.2.2.2.2.1))]) (rV (As := [.int x, .int 0]) (rest := []) ⟨hx, hb, hml, hown, hts⟩ (c_X10_reels l D z h h1 h2 h3 h4 h5 v x 0 H.size) (cwV 2 hts gX10_peopleAt_X10_reels rfl rfl rfl (by decide +kernel) ⟨Nat.le_trans (by decide) hRf, Nat.le_trans (by decide) hRl⟩) e0_ok e_0 hK hP hD [0, 1, 2, 3, 4, 5] (by decide) rfl (va_recv hK hP (ci := 10) (q0 := 0) rfl rfl) rfl hl.1 rfl (Nat.le_of_ble_eq_true rfl) dX10_peopleAt_3 ⟨Nat.zero_le _, Nat.zero_le _⟩) hK hP hD hS hA [0, 1, 2, 3, 4, 5] [] [0, 1, 2, 3, 4, 5] rfl rfl (by decide) (by decide) (by decide) (fun _ => rfl) (fun zr zu H locs hw hP hD hS => ?_)
  subst hw
  have hP : va_P D vwCl [(h, .inr (10, [.ref h1, .ref h2, .ref h3, .int v.2.2.2.1, .ref h4, .int v.2.2.2.2.2.1, .ref h5, .int v.2.2.2.2.2.2.2.1, .int v.2.2.2.2.2.2.2.2.1, .int v.2.2.2.2.2.2.2.2.2.1, .int v.2.2.2.2.2.2.2.2.2.2.1, .int v.2.2.2.2.2.2.2.2.2.2.2.1, .int v.2.2.2.2.2.2.2.2.2.2.2.2.1, .int v.2.2.2.2.2.2.2.2.2.2.2.2.2.1, .int v.2.2.2.2.2.2.2.2.2.2.2.2.2.2.1, .int v.2.2.2.2.2.2.2.2.2.2.2.2.2.2.2])), (h1, .inl (z.1, 108, .inl v.1)), (h2, .inl (z.1, 108, .inl v.2.1)), (h3, .inl (z.1, 432, .inl v.2.2.1)), (h4, .inl (z.1, 108, .inl v.2.2.2.2.1)), (h5, .inl (z.1, 80, .inl v.2.2.2.2.2.2.1))] H := hP
  have hD : va_D A [(h, .inr (10, [.ref h1, .ref h2, .ref h3, .int v.2.2.2.1, .ref h4, .int v.2.2.2.2.2.1, .ref h5, .int v.2.2.2.2.2.2.2.1, .int v.2.2.2.2.2.2.2.2.1, .int v.2.2.2.2.2.2.2.2.2.1, .int v.2.2.2.2.2.2.2.2.2.2.1, .int v.2.2.2.2.2.2.2.2.2.2.2.1, .int v.2.2.2.2.2.2.2.2.2.2.2.2.1, .int v.2.2.2.2.2.2.2.2.2.2.2.2.2.1, .int v.2.2.2.2.2.2.2.2.2.2.2.2.2.2.1, .int v.2.2.2.2.2.2.2.2.2.2.2.2.2.2.2])), (h1, .inl (z.1, 108, .inl v.1)), (h2, .inl (z.1, 108, .inl v.2.1)), (h3, .inl (z.1, 432, .inl v.2.2.1)), (h4, .inl (z.1, 108, .inl v.2.2.2.2.1)), (h5, .inl (z.1, 80, .inl v.2.2.2.2.2.2.1))] := hD
  refine lv_istore_n (lv' := [(2, .int (f_X10_reels v.1 x 0)), (0, .ref h), (1, .int x)]) hx hb dX10_peopleAt_6 rfl hl (by decide) rfl (fun ls hl => ?_)
  refine lv_iload_n hx hb dX10_peopleAt_7 rfl (lv_at hl 0 rfl) ?_
  refine lv_if_ne (tgt := 15) hx hb dX10_peopleAt_8 (by decide) (fun c_1 => ?_) (fun c_1 => ?_)
  · refine lv_iload_n hx hb dX10_peopleAt_15 rfl (lv_at hl 2 rfl) ?_
    refine call_i [(h, .inr (10, [.ref h1, .ref h2, .ref h3, .int v.2.2.2.1, .ref h4, .int v.2.2.2.2.2.1, .ref h5, .int v.2.2.2.2.2.2.2.1, .int v.2.2.2.2.2.2.2.2.1, .int v.2.2.2.2.2.2.2.2.2.1, .int v.2.2.2.2.2.2.2.2.2.2.1, .int v.2.2.2.2.2.2.2.2.2.2.2.1, .int v.2.2.2.2.2.2.2.2.2.2.2.2.1, .int v.2.2.2.2.2.2.2.2.2.2.2.2.2.1, .int v.2.2.2.2.2.2.2.2.2.2.2.2.2.2.1, .int v.2.2.2.2.2.2.2.2.2.2.2.2.2.2.2])), (h1, .inl (z.1, 108, .inl v.1)), (h2, .inl (z.1, 108, .inl v.2.1)), (h3, .inl (z.1, 432, .inl v.2.2.1)), (h4, .inl (z.1, 108, .inl v.2.2.2.2.1)), (h5, .inl (z.1, 80, .inl v.2.2.2.2.2.2.1))] (fun _ => [(h, .inr (10, [.ref h1, .ref h2, .ref h3, .int v.2.2.2.1, .ref h4, .int v.2.2.2.2.2.1, .ref h5, .int v.2.2.2.2.2.2.2.1, .int v.2.2.2.2.2.2.2.2.1, .int v.2.2.2.2.2.2.2.2.2.1, .int v.2.2.2.2.2.2.2.2.2.2.1, .int v.2.2.2.2.2.2.2.2.2.2.2.1, .int v.2.2.2.2.2.2.2.2.2.2.2.2.1, .int v.2.2.2.2.2.2.2.2.2.2.2.2.2.1, .int v.2.2.2.2.2.2.2.2.2.2.2.2.2.2.1, .int v.2.2.2.2.2.2.2.2.2.2.2.2.2.2.2])), (h1, .inl (z.1, 108, .inl v.1)), (h2, .inl (z.1, 108, .inl v.2.1)), (h3, .inl (z.1, 432, .inl v.2.2.1)), (h4, .inl (z.1, 108, .inl v.2.2.2.2.1)), (h5, .inl (z.1, 80, .inl v.2.2.2.2.2.2.1))]) (rS (As := [.int x]) (rest := []) ⟨hx, hb, hml, hown, hts⟩ (c_X10_seats l D z x H.size) (va_cwS 1 hts gX10_peopleAt_X10_seats rfl rfl rfl (by decide +kernel) ⟨Nat.le_trans (by decide) hRf, Nat.le_trans (by decide) hRl⟩) e0_ok e_0 hK hP hD [] (by decide) rfl rfl hl.1 rfl (Nat.le_of_ble_eq_true rfl) dX10_peopleAt_16 ⟨Nat.zero_le _, Nat.zero_le _⟩) hK hP hD hS hA [] [0, 1, 2, 3, 4, 5] [0, 1, 2, 3, 4, 5] rfl rfl (by decide) (by decide) (by decide) (fun _ => rfl) (fun zr zu H locs hw hP hD hS => ?_)
    subst hw
    have hP : va_P D vwCl [(h, .inr (10, [.ref h1, .ref h2, .ref h3, .int v.2.2.2.1, .ref h4, .int v.2.2.2.2.2.1, .ref h5, .int v.2.2.2.2.2.2.2.1, .int v.2.2.2.2.2.2.2.2.1, .int v.2.2.2.2.2.2.2.2.2.1, .int v.2.2.2.2.2.2.2.2.2.2.1, .int v.2.2.2.2.2.2.2.2.2.2.2.1, .int v.2.2.2.2.2.2.2.2.2.2.2.2.1, .int v.2.2.2.2.2.2.2.2.2.2.2.2.2.1, .int v.2.2.2.2.2.2.2.2.2.2.2.2.2.2.1, .int v.2.2.2.2.2.2.2.2.2.2.2.2.2.2.2])), (h1, .inl (z.1, 108, .inl v.1)), (h2, .inl (z.1, 108, .inl v.2.1)), (h3, .inl (z.1, 432, .inl v.2.2.1)), (h4, .inl (z.1, 108, .inl v.2.2.2.2.1)), (h5, .inl (z.1, 80, .inl v.2.2.2.2.2.2.1))] H := hP
    have hD : va_D A [(h, .inr (10, [.ref h1, .ref h2, .ref h3, .int v.2.2.2.1, .ref h4, .int v.2.2.2.2.2.1, .ref h5, .int v.2.2.2.2.2.2.2.1, .int v.2.2.2.2.2.2.2.2.1, .int v.2.2.2.2.2.2.2.2.2.1, .int v.2.2.2.2.2.2.2.2.2.2.1, .int v.2.2.2.2.2.2.2.2.2.2.2.1, .int v.2.2.2.2.2.2.2.2.2.2.2.2.1, .int v.2.2.2.2.2.2.2.2.2.2.2.2.2.1, .int v.2.2.2.2.2.2.2.2.2.2.2.2.2.2.1, .int v.2.2.2.2.2.2.2.2.2.2.2.2.2.2.2])), (h1, .inl (z.1, 108, .inl v.1)), (h2, .inl (z.1, 108, .inl v.2.1)), (h3, .inl (z.1, 432, .inl v.2.2.1)), (h4, .inl (z.1, 108, .inl v.2.2.2.2.1)), (h5, .inl (z.1, 80, .inl v.2.2.2.2.2.2.1))] := hD
    refine lv_aload_n hx hb dX10_peopleAt_19 rfl (lv_at hl 1 rfl) ?_
    refine lv_iload_n hx hb dX10_peopleAt_20 rfl (lv_at hl 2 rfl) ?_
    refine lv_iconst (v := 3) hx hb dX10_peopleAt_21 (by decide) ?_
    refine call_i [] (fun _ => [(h, .inr (10, [.ref h1, .ref h2, .ref h3, .int v.2.2.2.1, .ref h4, .int v.2.2.2.2.2.1, .ref h5, .int v.2.2.2.2.2.2.2.1, .int v.2.2.2.2.2.2.2.2.1, .int v.2.2.2.2.2.2.2.2.2.1, .int v.2.2.2.2.2.2.2.2.2.2.1, .int v.2.2.2.2.2.2.2.2.2.2.2.1, .int v.2.2.2.2.2.2.2.2.2.2.2.2.1, .int v.2.2.2.2.2.2.2.2.2.2.2.2.2.1, .int v.2.2.2.2.2.2.2.2.2.2.2.2.2.2.1, .int v.2.2.2.2.2.2.2.2.2.2.2.2.2.2.2])), (h1, .inl (z.1, 108, .inl v.1)), (h2, .inl (z.1, 108, .inl v.2.1)), (h3, .inl (z.1, 432, .inl v.2.2.1)), (h4, .inl (z.1, 108, .inl v.2.2.2.2.1)), (h5, .inl (z.1, 80, .inl v.2.2.2.2.2.2.1))]) (rV (As := [.int x, .int 3]) (rest := [.int (f_X10_seats x)]) ⟨hx, hb, hml, hown, hts⟩ (c_X10_reels l D z h h1 h2 h3 h4 h5 v x 3 H.size) (cwV 2 hts gX10_peopleAt_X10_reels rfl rfl rfl (by decide +kernel) ⟨Nat.le_trans (by decide) hRf, Nat.le_trans (by decide) hRl⟩) e0_ok e_0 hK hP hD [0, 1, 2, 3, 4, 5] (by decide) rfl (va_recv hK hP (ci := 10) (q0 := 0) rfl rfl) rfl hl.1 rfl (Nat.le_of_ble_eq_true rfl) dX10_peopleAt_22 ⟨Nat.zero_le _, Nat.zero_le _⟩) hK hP hD hS hA [0, 1, 2, 3, 4, 5] [] [0, 1, 2, 3, 4, 5] rfl rfl (by decide) (by decide) (by decide) (fun _ => rfl) (fun zr zu H locs hw hP hD hS => ?_)
    subst hw
    have hP : va_P D vwCl [(h, .inr (10, [.ref h1, .ref h2, .ref h3, .int v.2.2.2.1, .ref h4, .int v.2.2.2.2.2.1, .ref h5, .int v.2.2.2.2.2.2.2.1, .int v.2.2.2.2.2.2.2.2.1, .int v.2.2.2.2.2.2.2.2.2.1, .int v.2.2.2.2.2.2.2.2.2.2.1, .int v.2.2.2.2.2.2.2.2.2.2.2.1, .int v.2.2.2.2.2.2.2.2.2.2.2.2.1, .int v.2.2.2.2.2.2.2.2.2.2.2.2.2.1, .int v.2.2.2.2.2.2.2.2.2.2.2.2.2.2.1, .int v.2.2.2.2.2.2.2.2.2.2.2.2.2.2.2])), (h1, .inl (z.1, 108, .inl v.1)), (h2, .inl (z.1, 108, .inl v.2.1)), (h3, .inl (z.1, 432, .inl v.2.2.1)), (h4, .inl (z.1, 108, .inl v.2.2.2.2.1)), (h5, .inl (z.1, 80, .inl v.2.2.2.2.2.2.1))] H := hP
    have hD : va_D A [(h, .inr (10, [.ref h1, .ref h2, .ref h3, .int v.2.2.2.1, .ref h4, .int v.2.2.2.2.2.1, .ref h5, .int v.2.2.2.2.2.2.2.1, .int v.2.2.2.2.2.2.2.2.1, .int v.2.2.2.2.2.2.2.2.2.1, .int v.2.2.2.2.2.2.2.2.2.2.1, .int v.2.2.2.2.2.2.2.2.2.2.2.1, .int v.2.2.2.2.2.2.2.2.2.2.2.2.1, .int v.2.2.2.2.2.2.2.2.2.2.2.2.2.1, .int v.2.2.2.2.2.2.2.2.2.2.2.2.2.2.1, .int v.2.2.2.2.2.2.2.2.2.2.2.2.2.2.2])), (h1, .inl (z.1, 108, .inl v.1)), (h2, .inl (z.1, 108, .inl v.2.1)), (h3, .inl (z.1, 432, .inl v.2.2.1)), (h4, .inl (z.1, 108, .inl v.2.2.2.2.1)), (h5, .inl (z.1, 80, .inl v.2.2.2.2.2.2.1))] := hD
    refine lv_imul hx hb dX10_peopleAt_25 ?_
    refine lv_iload_n hx hb dX10_peopleAt_26 rfl (lv_at hl 0 rfl) ?_
    refine lv_idiv hx hb dX10_peopleAt_27 (by assumption) ?_
    refine lv_aload_n hx hb dX10_peopleAt_28 rfl (lv_at hl 1 rfl) ?_
    refine lv_iload_n hx hb dX10_peopleAt_29 rfl (lv_at hl 2 rfl) ?_
    refine lv_iconst (v := 2) hx hb dX10_peopleAt_30 (by decide) ?_
    refine call_i [] (fun _ => [(h, .inr (10, [.ref h1, .ref h2, .ref h3, .int v.2.2.2.1, .ref h4, .int v.2.2.2.2.2.1, .ref h5, .int v.2.2.2.2.2.2.2.1, .int v.2.2.2.2.2.2.2.2.1, .int v.2.2.2.2.2.2.2.2.2.1, .int v.2.2.2.2.2.2.2.2.2.2.1, .int v.2.2.2.2.2.2.2.2.2.2.2.1, .int v.2.2.2.2.2.2.2.2.2.2.2.2.1, .int v.2.2.2.2.2.2.2.2.2.2.2.2.2.1, .int v.2.2.2.2.2.2.2.2.2.2.2.2.2.2.1, .int v.2.2.2.2.2.2.2.2.2.2.2.2.2.2.2])), (h1, .inl (z.1, 108, .inl v.1)), (h2, .inl (z.1, 108, .inl v.2.1)), (h3, .inl (z.1, 432, .inl v.2.2.1)), (h4, .inl (z.1, 108, .inl v.2.2.2.2.1)), (h5, .inl (z.1, 80, .inl v.2.2.2.2.2.2.1))]) (rV (As := [.int x, .int 2]) (rest := [.int (((f_X10_seats x) * (f_X10_reels v.1 x 3)) / (f_X10_reels v.1 x 0))]) ⟨hx, hb, hml, hown, hts⟩ (c_X10_reels l D z h h1 h2 h3 h4 h5 v x 2 H.size) (cwV 2 hts gX10_peopleAt_X10_reels rfl rfl rfl (by decide +kernel) ⟨Nat.le_trans (by decide) hRf, Nat.le_trans (by decide) hRl⟩) e0_ok e_0 hK hP hD [0, 1, 2, 3, 4, 5] (by decide) rfl (va_recv hK hP (ci := 10) (q0 := 0) rfl rfl) rfl hl.1 rfl (Nat.le_of_ble_eq_true rfl) dX10_peopleAt_31 ⟨Nat.zero_le _, Nat.zero_le _⟩) hK hP hD hS hA [0, 1, 2, 3, 4, 5] [] [0, 1, 2, 3, 4, 5] rfl rfl (by decide) (by decide) (by decide) (fun _ => rfl) (fun zr zu H locs hw hP hD hS => ?_)
    subst hw
    have hP : va_P D vwCl [(h, .inr (10, [.ref h1, .ref h2, .ref h3, .int v.2.2.2.1, .ref h4, .int v.2.2.2.2.2.1, .ref h5, .int v.2.2.2.2.2.2.2.1, .int v.2.2.2.2.2.2.2.2.1, .int v.2.2.2.2.2.2.2.2.2.1, .int v.2.2.2.2.2.2.2.2.2.2.1, .int v.2.2.2.2.2.2.2.2.2.2.2.1, .int v.2.2.2.2.2.2.2.2.2.2.2.2.1, .int v.2.2.2.2.2.2.2.2.2.2.2.2.2.1, .int v.2.2.2.2.2.2.2.2.2.2.2.2.2.2.1, .int v.2.2.2.2.2.2.2.2.2.2.2.2.2.2.2])), (h1, .inl (z.1, 108, .inl v.1)), (h2, .inl (z.1, 108, .inl v.2.1)), (h3, .inl (z.1, 432, .inl v.2.2.1)), (h4, .inl (z.1, 108, .inl v.2.2.2.2.1)), (h5, .inl (z.1, 80, .inl v.2.2.2.2.2.2.1))] H := hP
    have hD : va_D A [(h, .inr (10, [.ref h1, .ref h2, .ref h3, .int v.2.2.2.1, .ref h4, .int v.2.2.2.2.2.1, .ref h5, .int v.2.2.2.2.2.2.2.1, .int v.2.2.2.2.2.2.2.2.1, .int v.2.2.2.2.2.2.2.2.2.1, .int v.2.2.2.2.2.2.2.2.2.2.1, .int v.2.2.2.2.2.2.2.2.2.2.2.1, .int v.2.2.2.2.2.2.2.2.2.2.2.2.1, .int v.2.2.2.2.2.2.2.2.2.2.2.2.2.1, .int v.2.2.2.2.2.2.2.2.2.2.2.2.2.2.1, .int v.2.2.2.2.2.2.2.2.2.2.2.2.2.2.2])), (h1, .inl (z.1, 108, .inl v.1)), (h2, .inl (z.1, 108, .inl v.2.1)), (h3, .inl (z.1, 432, .inl v.2.2.1)), (h4, .inl (z.1, 108, .inl v.2.2.2.2.1)), (h5, .inl (z.1, 80, .inl v.2.2.2.2.2.2.1))] := hD
    refine lv_bipush (v := 10) hx hb dX10_peopleAt_34 (by decide) ?_
    refine lv_idiv hx hb dX10_peopleAt_36 (by decide) ?_
    refine lv_isub hx hb dX10_peopleAt_37 ?_
    refine lv_istore_n (lv' := [(3, .int ((((f_X10_seats x) * (f_X10_reels v.1 x 3)) / (f_X10_reels v.1 x 0)) - ((f_X10_reels v.1 x 2) / 10))), (2, .int (f_X10_reels v.1 x 0)), (0, .ref h), (1, .int x)]) hx hb dX10_peopleAt_38 rfl hl (by decide) rfl (fun ls hl => ?_)
    refine lv_iload_n hx hb dX10_peopleAt_39 rfl (lv_at hl 0 rfl) ?_
    refine lv_if_ge (tgt := 47) hx hb dX10_peopleAt_40 (by decide) (fun c_2 => ?_) (fun c_2 => ?_)
    · refine lv_iload_n hx hb dX10_peopleAt_47 rfl (lv_at hl 0 rfl) ?_
      subst hQ
      exact ret_i () hx hb hr hK hP hD hS rfl (by unfold f_X10_peopleAt; rw [if_neg c_1, if_pos c_2]; try rfl) dX10_peopleAt_48 hlocks
    · refine lv_iconst (v := 0) hx hb dX10_peopleAt_43 (by decide) ?_
      refine lv_goto (tgt := 48) hx hb dX10_peopleAt_44 (by decide) ?_
      subst hQ
      exact ret_i () hx hb hr hK hP hD hS rfl (by unfold f_X10_peopleAt; rw [if_neg c_1, if_neg c_2]; try rfl) dX10_peopleAt_48 hlocks
  · refine lv_iconst (v := 0) hx hb dX10_peopleAt_11 (by decide) ?_
    refine lv_goto (tgt := 38) hx hb dX10_peopleAt_12 (by decide) ?_
    refine lv_istore_n (lv' := [(3, .int 0), (2, .int (f_X10_reels v.1 x 0)), (0, .ref h), (1, .int x)]) hx hb dX10_peopleAt_38 rfl hl (by decide) rfl (fun ls hl => ?_)
    refine lv_iload_n hx hb dX10_peopleAt_39 rfl (lv_at hl 0 rfl) ?_
    refine lv_if_ge (tgt := 47) hx hb dX10_peopleAt_40 (by decide) (fun c_3 => ?_) (fun c_3 => absurd c_3 (by decide))
    refine lv_iload_n hx hb dX10_peopleAt_47 rfl (lv_at hl 0 rfl) ?_
    subst hQ
    exact ret_i () hx hb hr hK hP hD hS rfl (by unfold f_X10_peopleAt; rw [if_pos c_1]; try rfl) dX10_peopleAt_48 hlocks

