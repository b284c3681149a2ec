/-! the law's cases -/
section LW
variable {p : Program} {l : Launch} {e : Env} {s : State} {m : MethodId} {below : List Frame} {meth : Method} {c : Code} {Q : State → Prop} {b L : Nat} {xs : Nat → Int32} {D : va_G} {z : ClassId × ClassId × ClassId} {tM tS : Nat} {h : Nat} {a1 a2 a3 : Nat → Nat} {hh hh1 : Nat} {d0 d1 d2 d3 : Nat → Nat} {t9 t91 r9 r91 r92 r93 : Nat} {g g1 g2 g3 g4 g5 : Nat} {N i : Nat} {x3 : Int32} {v : PV} {w : MV} {H : Heap} {locs : List Loc} {ls : Array Slot}
theorem tab22 (x : Int32) : (x.toInt < 0 ∨ (21 : Int) < x.toInt) ∨ x = 0 ∨ x = 1 ∨ x = 2 ∨ x = 3 ∨ x = 4 ∨ x = 5 ∨ x = 6 ∨ x = 7 ∨ x = 8 ∨ x = 9 ∨ x = 10 ∨ x = 11 ∨ x = 12 ∨ x = 13 ∨ x = 14 ∨ x = 15 ∨ x = 16 ∨ x = 17 ∨ x = 18 ∨ x = 19 ∨ x = 20 ∨ x = 21 := by
  by_cases h1 : x.toInt < 0
  · exact Or.inl (Or.inl h1)
  · by_cases h2 : (21 : Int) < x.toInt
    · exact Or.inl (Or.inr h2)
    · refine Or.inr ?_
      have e : x = Int32.ofInt x.toInt := (Int32.ofInt_toInt x).symm
      obtain ⟨k, hk⟩ : ∃ k : Nat, x.toInt = (k : Int) := ⟨x.toInt.toNat, by omega⟩
      have hk2 : k < 22 := by omega
      rw [hk] at e
      rcases (show k = 0 ∨ k = 1 ∨ k = 2 ∨ k = 3 ∨ k = 4 ∨ k = 5 ∨ k = 6 ∨ k = 7 ∨ k = 8 ∨ k = 9 ∨ k = 10 ∨ k = 11 ∨ k = 12 ∨ k = 13 ∨ k = 14 ∨ k = 15 ∨ k = 16 ∨ k = 17 ∨ k = 18 ∨ k = 19 ∨ k = 20 ∨ k = 21 by omega) with rfl | rfl | rfl | rfl | rfl | rfl | rfl | rfl | rfl | rfl | rfl | rfl | rfl | rfl | rfl | rfl | rfl | rfl | rfl | rfl | rfl | rfl
      · exact Or.inl e
      · exact Or.inr (Or.inl e)
      · exact Or.inr (Or.inr (Or.inl e))
      · exact Or.inr (Or.inr (Or.inr (Or.inl e)))
      · exact Or.inr (Or.inr (Or.inr (Or.inr (Or.inl e))))
      · exact Or.inr (Or.inr (Or.inr (Or.inr (Or.inr (Or.inl e)))))
      · exact Or.inr (Or.inr (Or.inr (Or.inr (Or.inr (Or.inr (Or.inl e))))))
      · exact Or.inr (Or.inr (Or.inr (Or.inr (Or.inr (Or.inr (Or.inr (Or.inl e)))))))
      · exact Or.inr (Or.inr (Or.inr (Or.inr (Or.inr (Or.inr (Or.inr (Or.inr (Or.inl e))))))))
      · exact Or.inr (Or.inr (Or.inr (Or.inr (Or.inr (Or.inr (Or.inr (Or.inr (Or.inr (Or.inl e)))))))))
      · exact Or.inr (Or.inr (Or.inr (Or.inr (Or.inr (Or.inr (Or.inr (Or.inr (Or.inr (Or.inr (Or.inl e))))))))))
      · exact Or.inr (Or.inr (Or.inr (Or.inr (Or.inr (Or.inr (Or.inr (Or.inr (Or.inr (Or.inr (Or.inr (Or.inl e)))))))))))
      · exact Or.inr (Or.inr (Or.inr (Or.inr (Or.inr (Or.inr (Or.inr (Or.inr (Or.inr (Or.inr (Or.inr (Or.inr (Or.inl e))))))))))))
      · exact Or.inr (Or.inr (Or.inr (Or.inr (Or.inr (Or.inr (Or.inr (Or.inr (Or.inr (Or.inr (Or.inr (Or.inr (Or.inr (Or.inl e)))))))))))))
      · exact Or.inr (Or.inr (Or.inr (Or.inr (Or.inr (Or.inr (Or.inr (Or.inr (Or.inr (Or.inr (Or.inr (Or.inr (Or.inr (Or.inr (Or.inl e))))))))))))))
      · exact Or.inr (Or.inr (Or.inr (Or.inr (Or.inr (Or.inr (Or.inr (Or.inr (Or.inr (Or.inr (Or.inr (Or.inr (Or.inr (Or.inr (Or.inr (Or.inl e)))))))))))))))
      · exact Or.inr (Or.inr (Or.inr (Or.inr (Or.inr (Or.inr (Or.inr (Or.inr (Or.inr (Or.inr (Or.inr (Or.inr (Or.inr (Or.inr (Or.inr (Or.inr (Or.inl e))))))))))))))))
      · exact Or.inr (Or.inr (Or.inr (Or.inr (Or.inr (Or.inr (Or.inr (Or.inr (Or.inr (Or.inr (Or.inr (Or.inr (Or.inr (Or.inr (Or.inr (Or.inr (Or.inr (Or.inl e)))))))))))))))))
      · exact Or.inr (Or.inr (Or.inr (Or.inr (Or.inr (Or.inr (Or.inr (Or.inr (Or.inr (Or.inr (Or.inr (Or.inr (Or.inr (Or.inr (Or.inr (Or.inr (Or.inr (Or.inr (Or.inl e))))))))))))))))))
      · exact Or.inr (Or.inr (Or.inr (Or.inr (Or.inr (Or.inr (Or.inr (Or.inr (Or.inr (Or.inr (Or.inr (Or.inr (Or.inr (Or.inr (Or.inr (Or.inr (Or.inr (Or.inr (Or.inr (Or.inl e)))))))))))))))))))
      · exact Or.inr (Or.inr (Or.inr (Or.inr (Or.inr (Or.inr (Or.inr (Or.inr (Or.inr (Or.inr (Or.inr (Or.inr (Or.inr (Or.inr (Or.inr (Or.inr (Or.inr (Or.inr (Or.inr (Or.inr (Or.inl e))))))))))))))))))))
      · exact Or.inr (Or.inr (Or.inr (Or.inr (Or.inr (Or.inr (Or.inr (Or.inr (Or.inr (Or.inr (Or.inr (Or.inr (Or.inr (Or.inr (Or.inr (Or.inr (Or.inr (Or.inr (Or.inr (Or.inr (Or.inr (e)))))))))))))))))))))
set_option maxRecDepth 100000 in
set_option maxHeartbeats 2000000 in
theorem law_loop (C : LX p s m meth c b L xs D z tM tS) (hL : L ≤ 1536) (hend : ∀ (H1 : Heap) (locs1 : List Loc) (ls : Array Slot), (∀ q ∈ locs1, s.heap.size ≤ q.base) → W p l e room_1 s m #[Value.ref b] below meth c H1 locs1 134 1958 Q (F0 m 692 ls [])) : ∀ (n i : Nat) (x3 : Int32), i ≤ L → L + 1 ≤ i + n → x3 = nI i → ∀ (v : PV) (w : MV), REL (41 * i) v w → ∀ (H : Heap) (locs : List Loc) (ls : Array Slot), va_P D vwCl (wX9 z h a1 a2 a3 hh hh1 d0 d1 d2 d3 t9 t91 r9 r91 r92 r93 v ++ wX10 z g g1 g2 g3 g4 g5 w) H → va_D (fun q : Nat => s.heap.size ≤ q) (wX9 z h a1 a2 a3 hh hh1 d0 d1 d2 d3 t9 t91 r9 r91 r92 r93 v ++ wX10 z g g1 g2 g3 g4 g5 w) → va_S (fun q : Nat => s.heap.size ≤ q) s.heap H locs → lv_has ls 4 [(3, .int x3), (2, .ref g), (1, .ref h), (0, .ref b)] → W p l e room_1 s m #[Value.ref b] below meth c H locs 134 1958 Q (F0 m 18 ls []) := by
  obtain ⟨hx, hb, hr, hml, hown, hts, hX, hbl, hK, hE⟩ := id C
  have hA : ∀ q : Nat, s.heap.size ≤ q → (fun q : Nat => s.heap.size ≤ q) q := fun _ h => h
  have hbA : ¬ (fun q : Nat => s.heap.size ≤ q) b := Nat.not_le.mpr hbl
  intro n
  induction n with
  | zero => intro i x3 h1 h2; exact absurd h2 (by omega)
  | succ n ih =>
    intro i x3 hi hin ex3 v w R H locs ls hP hD hS hl
    refine lv_iload_n hx hb dL_law_18 rfl (lv_at hl 0 rfl) ?_
    refine lv_aload_n hx hb dL_law_19 rfl (lv_at hl 3 rfl) ?_
    refine va_slen hx hb hX hbl hbA hS dL_law_20 ?_
    refine lv_iconst (v := 3) hx hb dL_law_21 (by decide) ?_
    refine lv_isub hx hb dL_law_22 ?_
    refine lv_icmp_gt (tgt := 692) hx hb dL_law_23 (by decide) (fun c_1 => ?_) (fun c_1 => ?_)
    · exact hend _ _ _ (fun q hq => hS.2.2 q hq)
    · have hi3 : i + 3 ≤ L := len3 (by omega) hL ex3 c_1
      have h0 : vp_in x3 L := by rw [ex3]; exact vp_in_nI (by omega) (by omega)
      have kk : ∀ (v1 : PV) (w1 : MV) (H1 : Heap) (locs1 : List Loc), REL (41 * i + 41) v1 w1 → va_P D vwCl (wX9 z h a1 a2 a3 hh hh1 d0 d1 d2 d3 t9 t91 r9 r91 r92 r93 v1 ++ wX10 z g g1 g2 g3 g4 g5 w1) H1 → va_D (fun q : Nat => s.heap.size ≤ q) (wX9 z h a1 a2 a3 hh hh1 d0 d1 d2 d3 t9 t91 r9 r91 r92 r93 v1 ++ wX10 z g g1 g2 g3 g4 g5 w1) → va_S (fun q : Nat => s.heap.size ≤ q) s.heap H1 locs1 → W p l e room_1 s m #[Value.ref b] below meth c H1 locs1 134 1958 Q (F0 m 686 ls []) := by
        intro v1 w1 H1 locs1 R1 hP1 hD1 hS1
        refine lv_iinc (v := nI (i + 3)) (lv' := [(3, .int (nI (i + 3))), (2, .ref g), (1, .ref h), (0, .ref b)]) hx hb dL_law_686 hl (k := 0) rfl (by rw [ex3]; exact nadd rfl (nlit 3)) (by decide) rfl (fun ls hl => ?_)
        refine lv_goto (tgt := 18) hx hb dL_law_689 (by decide) ?_
        exact ih (i + 3) _ (by omega) (by omega) rfl v1 w1 (rel_mono R1 (by omega)) _ _ _ hP1 hD1 hS1 hl
      refine lv_aload_n hx hb dL_law_26 rfl (lv_at hl 3 rfl) ?_
      refine lv_iload_n hx hb dL_law_27 rfl (lv_at hl 0 rfl) ?_
      refine va_sld hx hb hX hbl hbA hS h0 dL_law_28 ?_
      refine lv_bipush (v := 31) hx hb dL_law_29 (by decide) ?_
      refine lv_iand hx hb dL_law_31 ?_
      generalize xs x3.toNatClampNeg &&& 31 = t
      rcases tab22 t with q9 | q9 | q9 | q9 | q9 | q9 | q9 | q9 | q9 | q9 | q9 | q9 | q9 | q9 | q9 | q9 | q9 | q9 | q9 | q9 | q9 | q9 | q9
      · refine lv_tableOut (tgt := 686) hx hb dL_law_32 q9 (by decide) ?_
        exact kk v w _ _ (rel_mono R (by omega)) hP hD hS
      · rw [q9]
        refine lv_tableIn (tgt := 136) hx hb dL_law_32 (by decide) (by decide) rfl (by decide) ?_
        exact law_drive C ex3 hi3 hL R (by omega) hP hD hS hl kk
      · rw [q9]
        refine lv_tableIn (tgt := 159) hx hb dL_law_32 (by decide) (by decide) rfl (by decide) ?_
        exact law_moveReel C ex3 hi3 hL R (by omega) hP hD hS hl kk
      · rw [q9]
        refine lv_tableIn (tgt := 208) hx hb dL_law_32 (by decide) (by decide) rfl (by decide) ?_
        exact law_moveGenerator C ex3 hi3 hL R (by omega) hP hD hS hl kk
      · rw [q9]
        refine lv_tableIn (tgt := 257) hx hb dL_law_32 (by decide) (by decide) rfl (by decide) ?_
        exact law_fuel C ex3 hi3 hL R (by omega) hP hD hS hl kk
      · rw [q9]
        refine lv_tableIn (tgt := 290) hx hb dL_law_32 (by decide) (by decide) rfl (by decide) ?_
        exact law_renew C ex3 hi3 hL R (by omega) hP hD hS hl kk
      · rw [q9]
        refine lv_tableIn (tgt := 313) hx hb dL_law_32 (by decide) (by decide) rfl (by decide) ?_
        exact law_setPrice C ex3 hi3 hL R (by omega) hP hD hS hl kk
      · rw [q9]
        refine lv_tableIn (tgt := 336) hx hb dL_law_32 (by decide) (by decide) rfl (by decide) ?_
        exact law_show C ex3 hi3 hL R (by omega) hP hD hS hl kk
      · rw [q9]
        refine lv_tableIn (tgt := 359) hx hb dL_law_32 (by decide) (by decide) rfl (by decide) ?_
        exact law_nextDay C ex3 hi3 hL R (by omega) hP hD hS hl kk
      · rw [q9]
        refine lv_tableIn (tgt := 372) hx hb dL_law_32 (by decide) (by decide) rfl (by decide) ?_
        exact law_type C ex3 hi3 hL R (by omega) hP hD hS hl kk
      · rw [q9]
        refine lv_tableIn (tgt := 397) hx hb dL_law_32 (by decide) (by decide) rfl (by decide) ?_
        exact law_clearText C ex3 hi3 hL R (by omega) hP hD hS hl kk
      · rw [q9]
        refine lv_tableIn (tgt := 410) hx hb dL_law_32 (by decide) (by decide) rfl (by decide) ?_
        exact law_perform C ex3 hi3 hL R (by omega) hP hD hS hl kk
      · rw [q9]
        refine lv_tableIn (tgt := 423) hx hb dL_law_32 (by decide) (by decide) rfl (by decide) ?_
        exact law_stopped C ex3 hi3 hL R (by omega) hP hD hS hl kk
      · rw [q9]
        refine lv_tableIn (tgt := 446) hx hb dL_law_32 (by decide) (by decide) rfl (by decide) ?_
        exact law_undo C ex3 hi3 hL R (by omega) hP hD hS hl kk
      · rw [q9]
        refine lv_tableIn (tgt := 459) hx hb dL_law_32 (by decide) (by decide) rfl (by decide) ?_
        exact law_keep C ex3 hi3 hL R (by omega) hP hD hS hl kk
      · rw [q9]
        refine lv_tableIn (tgt := 472) hx hb dL_law_32 (by decide) (by decide) rfl (by decide) ?_
        exact law_restore C ex3 hi3 hL R (by omega) hP hD hS hl kk
      · rw [q9]
        refine lv_tableIn (tgt := 485) hx hb dL_law_32 (by decide) (by decide) rfl (by decide) ?_
        exact law_reel C ex3 hi3 hL R (by omega) hP hD hS hl kk
      · rw [q9]
        refine lv_tableIn (tgt := 518) hx hb dL_law_32 (by decide) (by decide) rfl (by decide) ?_
        exact law_generator C ex3 hi3 hL R (by omega) hP hD hS hl kk
      · rw [q9]
        refine lv_tableIn (tgt := 551) hx hb dL_law_32 (by decide) (by decide) rfl (by decide) ?_
        exact law_barn C ex3 hi3 hL R (by omega) hP hD hS hl kk
      · rw [q9]
        refine lv_tableIn (tgt := 584) hx hb dL_law_32 (by decide) (by decide) rfl (by decide) ?_
        exact law_bestBarn C ex3 hi3 hL R (by omega) hP hD hS hl kk
      · rw [q9]
        refine lv_tableIn (tgt := 597) hx hb dL_law_32 (by decide) (by decide) rfl (by decide) ?_
        exact law_ifPrice C ex3 hi3 hL R (by omega) hP hD hS hl kk
      · rw [q9]
        refine lv_tableIn (tgt := 630) hx hb dL_law_32 (by decide) (by decide) rfl (by decide) ?_
        exact law_showOf C ex3 hi3 hL R (by omega) hP hD hS hl kk
      · rw [q9]
        refine lv_tableIn (tgt := 663) hx hb dL_law_32 (by decide) (by decide) rfl (by decide) ?_
        exact law_count C ex3 hi3 hL R (by omega) hP hD hS hl kk
end LW
