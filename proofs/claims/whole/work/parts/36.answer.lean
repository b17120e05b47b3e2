/-! answer -/
theorem sim_answer {u : Nat} {K N : rd_M} (h : qR u 10 K N) (hu : u < 400000) (p1 p2 p3 : Int32) : qS Eq (u + 1) K (f_K_answer K p1 p2 p3) (f_N_answer N p1 p2 p3) := by
  have h' : qR (u + 1) 10 K N := h.up (by omega) (by omega)
  unfold f_K_answer f_N_answer
  simp only [f_regb, f_namb, f_rrb, f_inb, f_fail, f_give, fe_bind]
  by_cases h1 : 0 ≤ p1 ∧ p1 ≤ 3
  · by_cases h2 : 0 ≤ p2 ∧ p2 ≤ 9
    · obtain ⟨d, hd, rfl⟩ := rg_of (n := 9) (by decide) h2
      have hd : d < 10 := by omega
      obtain ⟨r, hr, rfl⟩ := rg_of (n := 3) (by decide) h1
      have hr : r < 4 := by omega
      simp only [if_pos h1, if_pos h2, kdtb hd, ndmb hd, if_pos (ri hd (show 10 < 2 ^ 31 by decide)), ev_c (show d < 2 ^ 31 by omega), fe_k]
      rcases h.dm hd with ⟨a, b⟩ | ⟨a, ⟨o, o1, o2, o3⟩, b1, b2, b3, b4, b5, b6, b7, b8⟩
      · simp only [if_pos a, b, if_neg im1]; exact qS_2 h'
      · obtain ⟨w1, w2⟩ := wnt b6
        simp only [a, o2, o3, w1, if_neg h10, if_pos (nI_pos' (show o < 2 ^ 31 by omega))]
        rcases w2 with w2 | ⟨w, w3, w2⟩
        · simp only [w2, if_true, if_neg im1]; exact qS_2 h'
        · have w4 : (K (37 + 8 * d)).1 10 = nI w := w1.trans w2
          simp only [w2, em1 (show w < 2 ^ 31 by omega), if_false, if_pos (nI_pos' (show w < 2 ^ 31 by omega))]
          by_cases g3 : p3 = 0
          · obtain ⟨K', N', d1, d2, d3, d4⟩ := endB h' hd w3 a w4 w2
            simp only [if_pos g3, d1, d2, fe_bind]
            by_cases g1 : nI r = nI o
            · simp only [if_pos g1]; exact qS_0 rfl d3
            · simp only [if_neg g1]
              by_cases g2 : nI r = nI w
              · simp only [if_pos g2]; exact qS_0 rfl d3
              · simp only [if_neg g2]; exact qS_3 h'
          · simp only [if_neg g3]
            by_cases g1 : nI r = nI o
            · simp only [if_pos g1]
              obtain ⟨ca, cb, c1, c2, c3, c4, c5⟩ := costB h w3 (k := 2) (kk := 2) (y := 1) (yy := 1) rfl (by omega) rfl (by omega)
              obtain ⟨m1, m2, m3⟩ := meansB h w3 c2 c3
              simp only [c1, m1, m2, fe_bind]
              by_cases g2 : cb.toInt ≤ ((N 2).2.1 w).toInt
              · obtain ⟨K', N', d1, d2, d3, d4⟩ := finB h hu hd w3 a w4 w2
                simp only [if_pos g2, fe_br, if_neg h10, d1, d2, fe_bind]
                exact qS_0 rfl d3
              · simp only [if_neg g2, fe_bl, if_true]; exact qS_4 h'
            · simp only [if_neg g1]; exact qS_3 h'
    · simp only [if_pos h1, if_neg h2]; exact qS_1 h'
  · simp only [if_neg h1]; exact qS_1 h' 
