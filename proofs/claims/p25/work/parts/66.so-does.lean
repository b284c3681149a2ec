/-! what the law does keeps what holds -/
theorem p_eta {N : Nat} {q : Int32 × PV} (h : PSTEP N q) : PSTEP N (q.1, q.2) := h
theorem l_does {N : Nat} {v : PV} (h : INV N v) (x : Int32) : PSTEP (N + 1) (f_L_does v x) := by
  unfold f_L_does
  by_cases c1 : (x &&& 15) = 0
  · rw [if_pos c1]
    exact p_eta (ps_mono (p_drive h _) (Nat.le_succ _))
  · rw [if_neg c1]
    by_cases c2 : (x &&& 15) = 1
    · rw [if_pos c2]
      exact p_eta (ps_mono (p_drive h _) (Nat.le_succ _))
    · rw [if_neg c2]
      by_cases c3 : (x &&& 15) = 2
      · rw [if_pos c3]
        by_cases c4 : ((x >>> (8 &&& 31)) &&& 3) = 0
        · rw [if_pos c4]
          exact p_eta (ps_mono (p_reel h _ _) (Nat.le_succ _))
        · rw [if_neg c4]
          exact p_eta (ps_mono (p_reel h _ _) (Nat.le_succ _))
      · rw [if_neg c3]
        by_cases c5 : (x &&& 15) = 3
        · rw [if_pos c5]
          by_cases c6 : ((x >>> (8 &&& 31)) &&& 3) = 0
          · rw [if_pos c6]
            exact p_eta (ps_mono (p_reel h _ _) (Nat.le_succ _))
          · rw [if_neg c6]
            exact p_eta (ps_mono (p_reel h _ _) (Nat.le_succ _))
        · rw [if_neg c5]
          by_cases c7 : (x &&& 15) = 4
          · rw [if_pos c7]
            by_cases c8 : ((x >>> (8 &&& 31)) &&& 3) = 0
            · rw [if_pos c8]
              exact p_eta (ps_mono (p_reel h _ _) (Nat.le_succ _))
            · rw [if_neg c8]
              exact p_eta (ps_mono (p_reel h _ _) (Nat.le_succ _))
          · rw [if_neg c7]
            by_cases c9 : (x &&& 15) = 5
            · rw [if_pos c9]
              by_cases c10 : ((x >>> (8 &&& 31)) &&& 3) = 0
              · rw [if_pos c10]
                exact p_eta (ps_mono (p_reel h _ _) (Nat.le_succ _))
              · rw [if_neg c10]
                exact p_eta (ps_mono (p_reel h _ _) (Nat.le_succ _))
            · rw [if_neg c9]
              by_cases c11 : (x &&& 15) = 6
              · rw [if_pos c11]
                by_cases c12 : ((x >>> (5 &&& 31)) &&& 3) = 0
                · rw [if_pos c12]
                  exact p_eta (ps_mono (p_gen h _ _) (Nat.le_succ _))
                · rw [if_neg c12]
                  exact p_eta (ps_mono (p_gen h _ _) (Nat.le_succ _))
              · rw [if_neg c11]
                by_cases c13 : (x &&& 15) = 7
                · rw [if_pos c13]
                  exact p_eta (ps_mono (p_fuel h _ _) (Nat.le_succ _))
                · rw [if_neg c13]
                  by_cases c14 : (x &&& 15) = 8
                  · rw [if_pos c14]
                    exact p_eta (ps_mono (p_renew h _) (Nat.le_succ _))
                  · rw [if_neg c14]
                    by_cases c15 : (x &&& 15) = 9
                    · rw [if_pos c15]
                      by_cases c16 : ((x >>> (4 &&& 31)) &&& 3) = 0
                      · rw [if_pos c16]
                        exact p_eta (ps_mono (p_price h _) (Nat.le_succ _))
                      · rw [if_neg c16]
                        exact p_eta (p_show h _)
                    · rw [if_neg c15]
                      by_cases c17 : (x &&& 15) = 10
                      · rw [if_pos c17]
                        by_cases c18 : ((x >>> (4 &&& 31)) &&& 3) = 0
                        · rw [if_pos c18]
                          exact p_eta (p_show h _)
                        · rw [if_neg c18]
                          exact p_eta (p_show h _)
                      · rw [if_neg c17]
                        by_cases c19 : (x &&& 15) = 11
                        · rw [if_pos c19]
                          by_cases c20 : ((x >>> (4 &&& 31)) &&& 3) = 0
                          · rw [if_pos c20]
                            exact p_eta (p_show h _)
                          · rw [if_neg c20]
                            exact p_eta (p_show h _)
                        · rw [if_neg c19]
                          by_cases c21 : (x &&& 15) = 12
                          · rw [if_pos c21]
                            by_cases c22 : ((x >>> (4 &&& 31)) &&& 3) = 0
                            · rw [if_pos c22]
                              exact p_eta (p_show h _)
                            · rw [if_neg c22]
                              exact p_eta (p_show h _)
                          · rw [if_neg c21]
                            exact p_eta (ps_mono (p_day h) (Nat.le_succ _))
