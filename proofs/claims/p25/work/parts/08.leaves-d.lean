theorem wok_key {v : RV} {rn x : Nat} (hW : WOK v) (hx : x < 40) (v2 : RV) (e : v2.2.2.1 = upd v.2.2.1 rn (nI x)) : WOK v2 := by
  intro j hj
  rw [e]
  by_cases h : j = rn
  · subst h; exact ⟨x, hx, pk_us⟩
  · obtain ⟨w2, a, b⟩ := hW j hj; exact ⟨w2, a, by rw [pk_un h]; exact b⟩
theorem wok_playOne {v : RV} {r : Int32} {rn : Nat} {b : Int32} {bn : Nat} (hW : WOK v) (hr : rn < 10) (ee_b : b = nI bn) (hb : bn < 5) : WOK (f_X4_playOne v r rn b bn).2 := by
  obtain ⟨w, hw40, hw⟩ := hW rn hr
  have e1 : v.2.2.1 rn + (5 + (b - b / 3 * 3)) = nI (w + (5 + bn % 3)) := nadd hw (nadd (nlit 5) (nrem_any ee_b (by omega)))
  unfold f_X4_playOne
  by_cases c1 : v.2.2.1 rn + (5 + (b - b / 3 * 3)) < 40
  · rw [if_pos c1]
    have c1 := (nlt_iff e1 (nlit 40) (by omega) (by decide)).mp c1
    split
    · exact wok_key hW c1 _ (by show upd v.2.2.1 rn _ = _; rw [e1])
    · exact wok_key hW c1 _ (by show upd v.2.2.1 rn _ = _; rw [e1])
  · rw [if_neg c1]
    have c1 : ¬ w + (5 + bn % 3) < 40 := fun h => c1 ((nlt_iff e1 (nlit 40) (by omega) (by decide)).mpr h)
    have e2 : v.2.2.1 rn + (5 + (b - b / 3 * 3)) - 20 = nI (w + (5 + bn % 3) - 20) := nsub e1 (nlit 20) (by omega)
    have e3 : ∀ y : Int32, upd (upd v.2.2.1 rn y) rn (v.2.2.1 rn + (5 + (b - b / 3 * 3)) - 20) = upd v.2.2.1 rn (nI (w + (5 + bn % 3) - 20)) := by
      intro y; rw [e2]; funext j; by_cases h : j = rn
      · subst h; rw [pk_us, pk_us]
      · rw [pk_un h, pk_un h, pk_un h]
    split
    · exact wok_key hW (by omega) _ (e3 _)
    · exact wok_key hW (by omega) _ (e3 _)
theorem iX4_playAllIn_X4 : ∀ w ∈ wsX40, w ∈ wsX4_playAllIn := by decide +kernel
def f_X4_playAllIn_q24 (v : RV) (b : Int32) (bn : Nat) (k4 : Nat) (q4 : Int32 × RV) (q24 : Int32 × RV) : Int32 × RV := ((q4.1 + q24.1), q24.2)
def f_X4_playAllIn_4_x (v : RV) (b : Int32) (bn : Nat) (q4 : Int32 × RV) : Int32 × RV := (q4.1, q4.2)
def st_X4_playAllIn_4 (v : RV) (b : Int32) (bn : Nat) (k4 : Nat) (q4 : Int32 × RV) : Int32 × RV := if (q4.2.1 k4) = b then f_X4_playAllIn_q24 v b bn k4 q4 (f_X4_playOne q4.2 (nI k4) k4 b bn) else (q4.1, q4.2)
def lp_X4_playAllIn_4 (v : RV) (b : Int32) (bn : Nat) (i0 : Int32 × RV) : Nat → Int32 × RV
  | 0 => i0
  | k + 1 => st_X4_playAllIn_4 v b bn k (lp_X4_playAllIn_4 v b bn i0 k)
theorem lp_X4_playAllIn_4_0 (v : RV) (b : Int32) (bn : Nat) (i0 : Int32 × RV) : lp_X4_playAllIn_4 v b bn i0 0 = i0 := rfl
theorem lp_X4_playAllIn_4_s (v : RV) (b : Int32) (bn : Nat) (i0 : Int32 × RV) (k : Nat) : lp_X4_playAllIn_4 v b bn i0 (k + 1) = st_X4_playAllIn_4 v b bn k (lp_X4_playAllIn_4 v b bn i0 k) := rfl
def f_X4_playAllIn (v : RV) (b : Int32) (bn : Nat) : Int32 × RV := f_X4_playAllIn_4_x v b bn (lp_X4_playAllIn_4 v b bn (0, v) 10)
set_option maxRecDepth 100000 in
set_option maxHeartbeats 1000000 in
theorem c_X4_playAllIn (l : Launch) (D : va_G) (z : ClassId × ClassId × ClassId) (h h1 h2 h3 h4 h5 : Nat) (v : RV) (b : Int32) (bn : Nat) (ee_b : b = nI bn) (bb_b : bn < 5) (hW : WOK v) (sz : Nat) : CI l yX4_playAllIn wsX4_playAllIn 1 23 0 0 [.ref h, .int b] D z (wX4 z h h1 h2 h3 h4 h5 v) sz (E0) (fun (zr : Int32) (zu : RV) => (zr, zu) = f_X4_playAllIn v b bn) (fun zu => wX4 z h h1 h2 h3 h4 h5 zu) := by
  refine met_i cX4_playAllIn 4 (some .int) (by decide) rfl (Nat.le_of_ble_eq_true rfl) ?_
  intro p e s m args below meth c R Q hx hb hr hml hts hown hlocks hin hRf hRl hRc hRs hc0 hs0 A H hA hP hK hD hS hE hQ ls hl
  have hl : lv_has ls 4 [(0, .ref h), (1, .int b)] := hl
  have hP : va_P D vwCl [(h, .inr (4, [.ref h1, .ref h2, .ref h3, .ref h4, .ref h5])), (h1, .inl (z.1, 10, .inl v.1)), (h2, .inl (z.1, 10, .inl v.2.1)), (h3, .inl (z.1, 10, .inl v.2.2.1)), (h4, .inl (z.1, 10, .inl v.2.2.2.1)), (h5, .inl (z.1, 10, .inl v.2.2.2.2))] H := hP
  have hD : va_D A [(h, .inr (4, [.ref h1, .ref h2, .ref h3, .ref h4, .ref h5])), (h1, .inl (z.1, 10, .inl v.1)), (h2, .inl (z.1, 10, .inl v.2.1)), (h3, .inl (z.1, 10, .inl v.2.2.1)), (h4, .inl (z.1, 10, .inl v.2.2.2.1)), (h5, .inl (z.1, 10, .inl v.2.2.2.2))] := hD
  have hown : s.vm.findClass RX4 = some m.cls := hown
  refine lv_iconst (v := 0) hx hb dX4_playAllIn_0 (by decide) ?_
  refine lv_istore_n (lv' := [(2, .int 0), (0, .ref h), (1, .int b)]) hx hb dX4_playAllIn_1 rfl hl (by decide) rfl (fun ls hl => ?_)
  refine lv_iconst (v := 0) hx hb dX4_playAllIn_2 (by decide) ?_
  refine lv_istore_n (lv' := [(3, .int 0), (2, .int 0), (0, .ref h), (1, .int b)]) hx hb dX4_playAllIn_3 rfl hl (by decide) rfl (fun ls hl => ?_)
  have L4 : ∀ (n4 k4 : Nat) (q4 : Int32 × RV), q4 = lp_X4_playAllIn_4 v b bn (0, v) k4 → k4 ≤ 10 → 10 + 1 ≤ k4 + n4 → WOK q4.2 → ∀ (H : Heap) (locs : List Loc) (ls : Array Slot), va_P D vwCl [(h, .inr (4, [.ref h1, .ref h2, .ref h3, .ref h4, .ref h5])), (h1, .inl (z.1, 10, .inl q4.2.1)), (h2, .inl (z.1, 10, .inl q4.2.2.1)), (h3, .inl (z.1, 10, .inl q4.2.2.2.1)), (h4, .inl (z.1, 10, .inl q4.2.2.2.2.1)), (h5, .inl (z.1, 10, .inl q4.2.2.2.2.2))] H → va_D A [(h, .inr (4, [.ref h1, .ref h2, .ref h3, .ref h4, .ref h5])), (h1, .inl (z.1, 10, .inl q4.2.1)), (h2, .inl (z.1, 10, .inl q4.2.2.1)), (h3, .inl (z.1, 10, .inl q4.2.2.2.1)), (h4, .inl (z.1, 10, .inl q4.2.2.2.2.1)), (h5, .inl (z.1, 10, .inl q4.2.2.2.2.2))] → va_S A s.heap H locs → lv_has ls 4 [(3, .int (nI k4)), (2, .int q4.1), (0, .ref h), (1, .int b)] → W p l e R s m args below meth c H locs 0 0 Q (F0 m 4 ls []) := by
    intro n4
    induction n4 with
    | zero => intro k4 q4 hq4 h1 h2; exact absurd h2 (by omega)
    | succ n4 ih4 =>
      intro k4 q4 hq4 hk4 hn4 hi4 H locs ls hP hD hS hl
      refine lv_iload_n hx hb dX4_playAllIn_4 rfl (lv_at hl 0 rfl) ?_
      refine lv_bipush (v := 10) hx hb dX4_playAllIn_5 (by decide) ?_
      rcases Nat.lt_or_ge k4 10 with hlt | hge
      · refine lv_icmp_ge (tgt := 35) hx hb dX4_playAllIn_7 (by decide) (fun c_2 => absurd c_2 (nI_ge (a := k4) (b := 10) (by omega) (by omega))) (fun c_2 => ?_)
        refine lv_aload_n hx hb dX4_playAllIn_10 rfl (lv_at hl 2 rfl) ?_
        refine va_get (D := D) (ci := 4) (v := .ref h1) (C := RX4) (T := TX4) (N := 5) hx hb hts iX4_playAllIn_X4 hown hK hP 0 rfl rfl 0 (by decide) (hts (.fieldLink RX4 9 "BarnPictures$Reels" "place" "[I") (by decide +kernel)) (fun _ h9 => h9) rfl dX4_playAllIn_11 ?_
        refine lv_iload_n hx hb dX4_playAllIn_14 rfl (lv_at hl 0 rfl) ?_
        refine iald_k hx hb hK hP 1 rfl k4 (ix_of (nrf k4) (by omega) (by decide)) dX4_playAllIn_15 ?_
        refine lv_iload_n hx hb dX4_playAllIn_16 rfl (lv_at hl 3 rfl) ?_
        refine lv_icmp_ne (tgt := 29) hx hb dX4_playAllIn_17 (by decide) (fun c_3 => ?_) (fun c_3 => ?_)
        · refine lv_iinc (v := nI (k4 + 1)) (lv' := [(3, .int (nI (k4 + 1))), (2, .int q4.1), (0, .ref h), (1, .int b)]) hx hb dX4_playAllIn_29 hl (k := 0) rfl (nI_add k4 1) (by decide) rfl (fun ls hl => ?_)
          refine lv_goto (tgt := 4) hx hb dX4_playAllIn_32 (by decide) ?_
          exact ih4 (k4 + 1) (q4.1, q4.2) (by rw [lp_X4_playAllIn_4_s, ← hq4]; unfold st_X4_playAllIn_4; rw [if_neg c_3]; try rfl) (by omega) (by omega) hi4 _ _ _ hP hD hS (lv_sub hl [0, 1, 2, 3] rfl)
        · refine lv_iload_n hx hb dX4_playAllIn_20 rfl (lv_at hl 1 rfl) ?_
          refine lv_aload_n hx hb dX4_playAllIn_21 rfl (lv_at hl 2 rfl) ?_
          refine lv_iload_n hx hb dX4_playAllIn_22 rfl (lv_at hl 0 rfl) ?_
          refine lv_iload_n hx hb dX4_playAllIn_23 rfl (lv_at hl 3 rfl) ?_
          refine call_i [] (fun zu => [(h, .inr (4, [.ref h1, .ref h2, .ref h3, .ref h4, .ref h5])), (h1, .inl (z.1, 10, .inl zu.1)), (h2, .inl (z.1, 10, .inl zu.2.1)), (h3, .inl (z.1, 10, .inl zu.2.2.1)), (h4, .inl (z.1, 10, .inl zu.2.2.2.1)), (h5, .inl (z.1, 10, .inl zu.2.2.2.2))]) (rV (As := [.int (nI k4), .int b]) (rest := [.int q4.1]) ⟨hx, hb, hml, hown, hts⟩ (c_X4_playOne l D z h h1 h2 h3 h4 h5 q4.2 (nI k4) k4 (nrf k4) (by omega) b bn ee_b (by omega) hi4 H.size) (cwV 2 hts gX4_playAllIn_X4_playOne rfl rfl rfl (by decide +kernel) ⟨Nat.le_trans (by decide) hRf, Nat.le_trans (by decide) hRl⟩) e0_ok e_0 hK hP hD [0, 1, 2, 3, 4, 5] (by decide) rfl (va_recv hK hP (ci := 4) (q0 := 0) rfl rfl) rfl hl.1 rfl (Nat.le_of_ble_eq_true rfl) dX4_playAllIn_24 ⟨Nat.zero_le _, Nat.zero_le _⟩) hK hP hD hS hA [0, 1, 2, 3, 4, 5] [] [0, 1, 2, 3, 4, 5] rfl rfl (by decide) (by decide) (by decide) (fun _ => rfl) (fun zr zu H locs hw hP hD hS => ?_)
          obtain ⟨q24, hq24⟩ : ∃ q9, q9 = (f_X4_playOne q4.2 (nI k4) k4 b bn) := ⟨_, rfl⟩
          rw [← hq24] at hw
          obtain ⟨rfl, rfl⟩ := pe hw
          have hP : va_P D vwCl [(h, .inr (4, [.ref h1, .ref h2, .ref h3, .ref h4, .ref h5])), (h1, .inl (z.1, 10, .inl q24.2.1)), (h2, .inl (z.1, 10, .inl q24.2.2.1)), (h3, .inl (z.1, 10, .inl q24.2.2.2.1)), (h4, .inl (z.1, 10, .inl q24.2.2.2.2.1)), (h5, .inl (z.1, 10, .inl q24.2.2.2.2.2))] H := hP
          have hD : va_D A [(h, .inr (4, [.ref h1, .ref h2, .ref h3, .ref h4, .ref h5])), (h1, .inl (z.1, 10, .inl q24.2.1)), (h2, .inl (z.1, 10, .inl q24.2.2.1)), (h3, .inl (z.1, 10, .inl q24.2.2.2.1)), (h4, .inl (z.1, 10, .inl q24.2.2.2.2.1)), (h5, .inl (z.1, 10, .inl q24.2.2.2.2.2))] := hD
          refine lv_iadd hx hb dX4_playAllIn_27 ?_
          refine lv_istore_n (lv' := [(2, .int (q4.1 + q24.1)), (3, .int (nI k4)), (0, .ref h), (1, .int b)]) hx hb dX4_playAllIn_28 rfl hl (by decide) rfl (fun ls hl => ?_)
          refine lv_iinc (v := nI (k4 + 1)) (lv' := [(3, .int (nI (k4 + 1))), (2, .int (q4.1 + q24.1)), (0, .ref h), (1, .int b)]) hx hb dX4_playAllIn_29 hl (k := 1) rfl (nI_add k4 1) (by decide) rfl (fun ls hl => ?_)
          refine lv_goto (tgt := 4) hx hb dX4_playAllIn_32 (by decide) ?_
          exact ih4 (k4 + 1) ((q4.1 + q24.1), q24.2) (by rw [lp_X4_playAllIn_4_s, ← hq4]; unfold st_X4_playAllIn_4; rw [if_pos c_3, ← hq24]; unfold f_X4_playAllIn_q24; try rfl) (by omega) (by omega) (by show WOK q24.2; rw [hq24]; exact wok_playOne hi4 (by omega) ee_b (by omega)) _ _ _ hP hD hS (lv_sub hl [0, 1, 2, 3] rfl)
      · obtain rfl : 10 = k4 := by omega
        refine lv_icmp_ge (tgt := 35) hx hb dX4_playAllIn_7 (by decide) (fun c_2 => ?_) (fun c_2 => absurd (nI_le (a := 10) (b := 10) (by omega) (by omega)) c_2)
        have hP : va_P D vwCl [(h, .inr (4, [.ref h1, .ref h2, .ref h3, .ref h4, .ref h5])), (h1, .inl (z.1, 10, .inl q4.2.1)), (h2, .inl (z.1, 10, .inl q4.2.2.1)), (h3, .inl (z.1, 10, .inl q4.2.2.2.1)), (h4, .inl (z.1, 10, .inl q4.2.2.2.2.1)), (h5, .inl (z.1, 10, .inl q4.2.2.2.2.2))] H := hP
        have hD : va_D A [(h, .inr (4, [.ref h1, .ref h2, .ref h3, .ref h4, .ref h5])), (h1, .inl (z.1, 10, .inl q4.2.1)), (h2, .inl (z.1, 10, .inl q4.2.2.1)), (h3, .inl (z.1, 10, .inl q4.2.2.2.1)), (h4, .inl (z.1, 10, .inl q4.2.2.2.2.1)), (h5, .inl (z.1, 10, .inl q4.2.2.2.2.2))] := hD
        refine lv_iload_n hx hb dX4_playAllIn_35 rfl (lv_at hl 1 rfl) ?_
        subst hQ
        exact ret_i q4.2 hx hb hr hK hP hD hS rfl (by unfold f_X4_playAllIn; rw [← hq4]; unfold f_X4_playAllIn_4_x; try rfl) dX4_playAllIn_36 hlocks
  exact L4 (10 + 1) 0 (0, v) (lp_X4_playAllIn_4_0 v b bn (0, v)).symm (Nat.zero_le _) (by omega) hW _ _ _ hP hD hS (lv_sub hl [0, 1, 2, 3] rfl)

theorem iX4_showsLeft_X4 : ∀ w ∈ wsX40, w ∈ wsX4_showsLeft := by decide +kernel
def f_X4_showsLeft_23_x (v : RV) (r : Int32) (rn : Nat) (w : Nat) (mn : Nat) (k17 : Nat) (q17 : Nat × Int32) (q23 : Int32) : Nat × Int32 := (((q17.1 + 5 * ((44 - q17.1) / 5)) - 20), q23)
def st_X4_showsLeft_23 (v : RV) (r : Int32) (rn : Nat) (w : Nat) (mn : Nat) (k17 : Nat) (q17 : Nat × Int32) (k23 : Nat) (q23 : Int32) : Int32 := (q23 + 1)
def lp_X4_showsLeft_23 (v : RV) (r : Int32) (rn : Nat) (w : Nat) (mn : Nat) (k17 : Nat) (q17 : Nat × Int32) (i0 : Int32) : Nat → Int32
  | 0 => i0
  | k + 1 => st_X4_showsLeft_23 v r rn w mn k17 q17 k (lp_X4_showsLeft_23 v r rn w mn k17 q17 i0 k)
theorem lp_X4_showsLeft_23_0 (v : RV) (r : Int32) (rn : Nat) (w : Nat) (mn : Nat) (k17 : Nat) (q17 : Nat × Int32) (i0 : Int32) : lp_X4_showsLeft_23 v r rn w mn k17 q17 i0 0 = i0 := rfl
theorem lp_X4_showsLeft_23_s (v : RV) (r : Int32) (rn : Nat) (w : Nat) (mn : Nat) (k17 : Nat) (q17 : Nat × Int32) (i0 : Int32) (k : Nat) : lp_X4_showsLeft_23 v r rn w mn k17 q17 i0 (k + 1) = st_X4_showsLeft_23 v r rn w mn k17 q17 k (lp_X4_showsLeft_23 v r rn w mn k17 q17 i0 k) := rfl
def f_X4_showsLeft_17_x (v : RV) (r : Int32) (rn : Nat) (w : Nat) (mn : Nat) (q17 : Nat × Int32) : Int32 := q17.2
def st_X4_showsLeft_17 (v : RV) (r : Int32) (rn : Nat) (w : Nat) (mn : Nat) (k17 : Nat) (q17 : Nat × Int32) : Nat × Int32 := f_X4_showsLeft_23_x v r rn w mn k17 q17 (lp_X4_showsLeft_23 v r rn w mn k17 q17 q17.2 ((44 - q17.1) / 5))
def lp_X4_showsLeft_17 (v : RV) (r : Int32) (rn : Nat) (w : Nat) (mn : Nat) (i0 : Nat × Int32) : Nat → Nat × Int32
  | 0 => i0
  | k + 1 => st_X4_showsLeft_17 v r rn w mn k (lp_X4_showsLeft_17 v r rn w mn i0 k)
theorem lp_X4_showsLeft_17_0 (v : RV) (r : Int32) (rn : Nat) (w : Nat) (mn : Nat) (i0 : Nat × Int32) : lp_X4_showsLeft_17 v r rn w mn i0 0 = i0 := rfl
theorem lp_X4_showsLeft_17_s (v : RV) (r : Int32) (rn : Nat) (w : Nat) (mn : Nat) (i0 : Nat × Int32) (k : Nat) : lp_X4_showsLeft_17 v r rn w mn i0 (k + 1) = st_X4_showsLeft_17 v r rn w mn k (lp_X4_showsLeft_17 v r rn w mn i0 k) := rfl
def f_X4_showsLeft (v : RV) (r : Int32) (rn : Nat) (w : Nat) (mn : Nat) : Int32 := f_X4_showsLeft_17_x v r rn w mn (lp_X4_showsLeft_17 v r rn w mn (w, 0) (mn - 2))
set_option maxRecDepth 100000 in
set_option maxHeartbeats 1000000 in
theorem c_X4_showsLeft (l : Launch) (D : va_G) (z : ClassId × ClassId × ClassId) (h h1 h2 h3 h4 h5 : Nat) (v : RV) (r : Int32) (rn : Nat) (ee_r : r = nI rn) (bb_r : rn < 10) (w : Nat) (mn : Nat) (hw40 : w < 40) (hm18 : mn < 18) (hw : v.2.2.1 rn = nI w) (hm : v.2.1 rn = nI mn) (sz : Nat) : CI l yX4_showsLeft wsX4_showsLeft 0 0 0 0 [.ref h, .int r] D z (wX4 z h h1 h2 h3 h4 h5 v) sz (E0) (fun (zr : Int32) (_ : Unit) => zr = f_X4_showsLeft v r rn w mn) (fun _ => wX4 z h h1 h2 h3 h4 h5 v) := by
  refine met_i cX4_showsLeft 5 (some .int) (by decide) rfl (Nat.le_of_ble_eq_true rfl) ?_
  intro p e s m args below meth c R Q hx hb hr hml hts hown hlocks hin hRf hRl hRc hRs hc0 hs0 A H hA hP hK hD hS hE hQ ls hl
  have hl : lv_has ls 5 [(0, .ref h), (1, .int r)] := hl
  have hP : va_P D vwCl [(h, .inr (4, [.ref h1, .ref h2, .ref h3, .ref h4, .ref h5])), (h1, .inl (z.1, 10, .inl v.1)), (h2, .inl (z.1, 10, .inl v.2.1)), (h3, .inl (z.1, 10, .inl v.2.2.1)), (h4, .inl (z.1, 10, .inl v.2.2.2.1)), (h5, .inl (z.1, 10, .inl v.2.2.2.2))] H := hP
  have hD : va_D A [(h, .inr (4, [.ref h1, .ref h2, .ref h3, .ref h4, .ref h5])), (h1, .inl (z.1, 10, .inl v.1)), (h2, .inl (z.1, 10, .inl v.2.1)), (h3, .inl (z.1, 10, .inl v.2.2.1)), (h4, .inl (z.1, 10, .inl v.2.2.2.1)), (h5, .inl (z.1, 10, .inl v.2.2.2.2))] := hD
  have hown : s.vm.findClass RX4 = some m.cls := hown
  refine lv_iconst (v := 0) hx hb dX4_showsLeft_0 (by decide) ?_
  refine lv_istore_n (lv' := [(2, .int 0), (0, .ref h), (1, .int r)]) hx hb dX4_showsLeft_1 rfl hl (by decide) rfl (fun ls hl => ?_)
  refine lv_aload_n hx hb dX4_showsLeft_2 rfl (lv_at hl 1 rfl) ?_
  refine va_get (D := D) (ci := 4) (v := .ref h3) (C := RX4) (T := TX4) (N := 5) hx hb hts iX4_showsLeft_X4 hown hK hP 0 rfl rfl 2 (by decide) (hts (.fieldLink RX4 18 "BarnPictures$Reels" "wear" "[I") (by decide +kernel)) (fun _ h9 => h9) rfl dX4_showsLeft_3 ?_
  refine lv_iload_n hx hb dX4_showsLeft_6 rfl (lv_at hl 2 rfl) ?_
  refine iald_k hx hb hK hP 3 rfl rn (ix_of ee_r (by omega) (by decide)) dX4_showsLeft_7 ?_
  refine lv_istore_n (lv' := [(3, .int (v.2.2.1 rn)), (2, .int 0), (0, .ref h), (1, .int r)]) hx hb dX4_showsLeft_8 rfl hl (by decide) rfl (fun ls hl => ?_)
  refine lv_aload_n hx hb dX4_showsLeft_9 rfl (lv_at hl 2 rfl) ?_
  refine va_get (D := D) (ci := 4) (v := .ref h2) (C := RX4) (T := TX4) (N := 5) hx hb hts iX4_showsLeft_X4 hown hK hP 0 rfl rfl 1 (by decide) (hts (.fieldLink RX4 15 "BarnPictures$Reels" "minutes" "[I") (by decide +kernel)) (fun _ h9 => h9) rfl dX4_showsLeft_10 ?_
  refine lv_iload_n hx hb dX4_showsLeft_13 rfl (lv_at hl 3 rfl) ?_
  refine iald_k hx hb hK hP 2 rfl rn (ix_of ee_r (by omega) (by decide)) dX4_showsLeft_14 ?_
  refine lv_istore (lv' := [(4, .int (v.2.1 rn)), (3, .int (v.2.2.1 rn)), (2, .int 0), (0, .ref h), (1, .int r)]) hx hb dX4_showsLeft_15 hl (by decide) rfl (fun ls hl => ?_)
  rw [hw] at hl
  rw [hm] at hl
  have L17 : ∀ (n17 k17 : Nat) (q17 : Nat × Int32), q17 = lp_X4_showsLeft_17 v r rn w mn (w, 0) k17 → k17 ≤ (mn - 2) → (mn - 2) + 1 ≤ k17 + n17 → q17.1 < 40 → ∀ (H : Heap) (locs : List Loc) (ls : Array Slot), va_P D vwCl [(h, .inr (4, [.ref h1, .ref h2, .ref h3, .ref h4, .ref h5])), (h1, .inl (z.1, 10, .inl v.1)), (h2, .inl (z.1, 10, .inl v.2.1)), (h3, .inl (z.1, 10, .inl v.2.2.1)), (h4, .inl (z.1, 10, .inl v.2.2.2.1)), (h5, .inl (z.1, 10, .inl v.2.2.2.2))] H → va_D A [(h, .inr (4, [.ref h1, .ref h2, .ref h3, .ref h4, .ref h5])), (h1, .inl (z.1, 10, .inl v.1)), (h2, .inl (z.1, 10, .inl v.2.1)), (h3, .inl (z.1, 10, .inl v.2.2.1)), (h4, .inl (z.1, 10, .inl v.2.2.2.1)), (h5, .inl (z.1, 10, .inl v.2.2.2.2))] → va_S A s.heap H locs → lv_has ls 5 [(4, .int (nI (mn - k17))), (3, .int (nI q17.1)), (2, .int q17.2), (0, .ref h), (1, .int r)] → W p l e R s m args below meth c H locs 0 0 Q (F0 m 17 ls []) := by
    intro n17
    induction n17 with
    | zero => intro k17 q17 hq17 h1 h2; exact absurd h2 (by omega)
    | succ n17 ih17 =>
      intro k17 q17 hq17 hk17 hn17 hi17 H locs ls hP hD hS hl
      refine lv_iload hx hb dX4_showsLeft_17 (lv_at hl 0 rfl) ?_
      refine lv_iconst (v := 3) hx hb dX4_showsLeft_19 (by decide) ?_
      rcases Nat.lt_or_ge k17 (mn - 2) with hlt | hge
      · refine lv_icmp_lt (tgt := 47) hx hb dX4_showsLeft_20 (by decide) (fun c_2 => absurd c_2 (nI_nlt (a := (mn - k17)) (b := 3) (by omega) (by omega))) (fun c_2 => ?_)
        have L23 : ∀ (n23 k23 : Nat) (q23 : Int32), q23 = lp_X4_showsLeft_23 v r rn w mn k17 q17 q17.2 k23 → k23 ≤ ((44 - q17.1) / 5) → ((44 - q17.1) / 5) + 1 ≤ k23 + n23 → ∀ (H : Heap) (locs : List Loc) (ls : Array Slot), va_P D vwCl [(h, .inr (4, [.ref h1, .ref h2, .ref h3, .ref h4, .ref h5])), (h1, .inl (z.1, 10, .inl v.1)), (h2, .inl (z.1, 10, .inl v.2.1)), (h3, .inl (z.1, 10, .inl v.2.2.1)), (h4, .inl (z.1, 10, .inl v.2.2.2.1)), (h5, .inl (z.1, 10, .inl v.2.2.2.2))] H → va_D A [(h, .inr (4, [.ref h1, .ref h2, .ref h3, .ref h4, .ref h5])), (h1, .inl (z.1, 10, .inl v.1)), (h2, .inl (z.1, 10, .inl v.2.1)), (h3, .inl (z.1, 10, .inl v.2.2.1)), (h4, .inl (z.1, 10, .inl v.2.2.2.1)), (h5, .inl (z.1, 10, .inl v.2.2.2.2))] → va_S A s.heap H locs → lv_has ls 5 [(4, .int (nI (mn - k17))), (3, .int (nI (q17.1 + 5 * k23))), (2, .int q23), (0, .ref h), (1, .int r)] → W p l e R s m args below meth c H locs 0 0 Q (F0 m 23 ls []) := by
          intro n23
          induction n23 with
          | zero => intro k23 q23 hq23 h1 h2; exact absurd h2 (by omega)
          | succ n23 ih23 =>
            intro k23 q23 hq23 hk23 hn23 H locs ls hP hD hS hl
            refine lv_iload_n hx hb dX4_showsLeft_23 rfl (lv_at hl 1 rfl) ?_
            refine lv_bipush (v := 40) hx hb dX4_showsLeft_24 (by decide) ?_
            rcases Nat.lt_or_ge k23 ((44 - q17.1) / 5) with hlt | hge
            · refine lv_icmp_ge (tgt := 38) hx hb dX4_showsLeft_26 (by decide) (fun c_4 => absurd c_4 (nI_ge (a := (q17.1 + 5 * k23)) (b := 40) (by omega) (by omega))) (fun c_4 => ?_)
              refine lv_iinc (v := nI ((q17.1 + 5 * k23) + 5)) (lv' := [(3, .int (nI ((q17.1 + 5 * k23) + 5))), (4, .int (nI (mn - k17))), (2, .int q23), (0, .ref h), (1, .int r)]) hx hb dX4_showsLeft_29 hl (k := 1) rfl (nI_add (q17.1 + 5 * k23) 5) (by decide) rfl (fun ls hl => ?_)
              refine lv_iinc (v := (q23 + 1)) (lv' := [(2, .int (q23 + 1)), (3, .int (nI ((q17.1 + 5 * k23) + 5))), (4, .int (nI (mn - k17))), (0, .ref h), (1, .int r)]) hx hb dX4_showsLeft_32 hl (k := 2) rfl rfl (by decide) rfl (fun ls hl => ?_)
              refine lv_goto (tgt := 23) hx hb dX4_showsLeft_35 (by decide) ?_
              rw [show ((q17.1 + 5 * k23) + 5) = (q17.1 + 5 * (k23 + 1)) from by omega] at hl
              exact ih23 (k23 + 1) (q23 + 1) (by rw [lp_X4_showsLeft_23_s, ← hq23]; unfold st_X4_showsLeft_23; try rfl) (by omega) (by omega) _ _ _ hP hD hS (lv_sub hl [2, 1, 0, 3, 4] rfl)
            · obtain rfl : ((44 - q17.1) / 5) = k23 := by omega
              refine lv_icmp_ge (tgt := 38) hx hb dX4_showsLeft_26 (by decide) (fun c_4 => ?_) (fun c_4 => absurd (nI_le (a := 40) (b := (q17.1 + 5 * ((44 - q17.1) / 5))) (by omega) (by omega)) c_4)
              have hP : va_P D vwCl [(h, .inr (4, [.ref h1, .ref h2, .ref h3, .ref h4, .ref h5])), (h1, .inl (z.1, 10, .inl v.1)), (h2, .inl (z.1, 10, .inl v.2.1)), (h3, .inl (z.1, 10, .inl v.2.2.1)), (h4, .inl (z.1, 10, .inl v.2.2.2.1)), (h5, .inl (z.1, 10, .inl v.2.2.2.2))] H := hP
              have hD : va_D A [(h, .inr (4, [.ref h1, .ref h2, .ref h3, .ref h4, .ref h5])), (h1, .inl (z.1, 10, .inl v.1)), (h2, .inl (z.1, 10, .inl v.2.1)), (h3, .inl (z.1, 10, .inl v.2.2.1)), (h4, .inl (z.1, 10, .inl v.2.2.2.1)), (h5, .inl (z.1, 10, .inl v.2.2.2.2))] := hD
              refine lv_iinc (v := nI ((q17.1 + 5 * ((44 - q17.1) / 5)) - 20)) (lv' := [(3, .int (nI ((q17.1 + 5 * ((44 - q17.1) / 5)) - 20))), (4, .int (nI (mn - k17))), (2, .int q23), (0, .ref h), (1, .int r)]) hx hb dX4_showsLeft_38 hl (k := 1) rfl (nI_dc (c := 20) (by omega)) (by decide) rfl (fun ls hl => ?_)
              refine lv_iinc (v := nI ((mn - k17) - 1)) (lv' := [(4, .int (nI ((mn - k17) - 1))), (3, .int (nI ((q17.1 + 5 * ((44 - q17.1) / 5)) - 20))), (2, .int q23), (0, .ref h), (1, .int r)]) hx hb dX4_showsLeft_41 hl (k := 1) rfl (nI_dc (c := 1) (by omega)) (by decide) rfl (fun ls hl => ?_)
              refine lv_goto (tgt := 17) hx hb dX4_showsLeft_44 (by decide) ?_
              rw [show ((mn - k17) - 1) = (mn - (k17 + 1)) from by omega] at hl
              exact ih17 (k17 + 1) (((q17.1 + 5 * ((44 - q17.1) / 5)) - 20), q23) (by rw [lp_X4_showsLeft_17_s, ← hq17]; unfold st_X4_showsLeft_17; rw [← hq23]; unfold f_X4_showsLeft_23_x; try rfl) (by omega) (by omega) (by show _ < 40; omega) _ _ _ hP hD hS (lv_sub hl [0, 1, 2, 3, 4] rfl)
        exact L23 (((44 - q17.1) / 5) + 1) 0 q17.2 (lp_X4_showsLeft_23_0 v r rn w mn k17 q17 q17.2).symm (Nat.zero_le _) (by omega) _ _ _ hP hD hS (lv_sub hl [0, 1, 2, 3, 4] rfl)
      · obtain rfl : (mn - 2) = k17 := by omega
        refine lv_icmp_lt (tgt := 47) hx hb dX4_showsLeft_20 (by decide) (fun c_2 => ?_) (fun c_2 => absurd (nI_lt (a := (mn - (mn - 2))) (b := 3) (by omega) (by decide)) c_2)
        have hP : va_P D vwCl [(h, .inr (4, [.ref h1, .ref h2, .ref h3, .ref h4, .ref h5])), (h1, .inl (z.1, 10, .inl v.1)), (h2, .inl (z.1, 10, .inl v.2.1)), (h3, .inl (z.1, 10, .inl v.2.2.1)), (h4, .inl (z.1, 10, .inl v.2.2.2.1)), (h5, .inl (z.1, 10, .inl v.2.2.2.2))] H := hP
        have hD : va_D A [(h, .inr (4, [.ref h1, .ref h2, .ref h3, .ref h4, .ref h5])), (h1, .inl (z.1, 10, .inl v.1)), (h2, .inl (z.1, 10, .inl v.2.1)), (h3, .inl (z.1, 10, .inl v.2.2.1)), (h4, .inl (z.1, 10, .inl v.2.2.2.1)), (h5, .inl (z.1, 10, .inl v.2.2.2.2))] := hD
        refine lv_iload_n hx hb dX4_showsLeft_47 rfl (lv_at hl 2 rfl) ?_
        subst hQ
        exact ret_i () hx hb hr hK hP hD hS rfl (by unfold f_X4_showsLeft; rw [← hq17]; unfold f_X4_showsLeft_17_x; try rfl) dX4_showsLeft_48 hlocks
  exact L17 ((mn - 2) + 1) 0 (w, 0) (lp_X4_showsLeft_17_0 v r rn w mn (w, 0)).symm (Nat.zero_le _) (by omega) hw40 _ _ _ hP hD hS (lv_sub hl [0, 1, 2, 3, 4] rfl)

