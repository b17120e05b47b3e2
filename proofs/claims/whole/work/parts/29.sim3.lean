/-! renew, ask -/
theorem cn0 : (0 : Int32).toNatClampNeg = 0 := rfl
theorem cn1 : (1 : Int32).toNatClampNeg = 1 := rfl
theorem cn2 : (2 : Int32).toNatClampNeg = 2 := rfl
theorem cn4 : (4 : Int32).toNatClampNeg = 4 := rfl
theorem in05 : rd_in 0 5 := by decide
theorem in15 : rd_in 1 5 := by decide
theorem in25 : rd_in 2 5 := by decide
theorem in45 : rd_in 4 5 := by decide
theorem rg13 {p : Int32} (h : 1 ≤ p ∧ p ≤ 3) : ∃ y, y ≤ 3 ∧ p = nI y := rg_of (n := 3) (by decide) ⟨Int32.le_iff_toInt_le.mpr (by have := Int32.le_iff_toInt_le.mp h.1; have e : (1 : Int32).toInt = 1 := rfl; have e2 : (0 : Int32).toInt = 0 := rfl; omega), h.2⟩
theorem le_lt {a b : Int32} (h : a ≤ b) : ¬ b < a := fun z => by
  have e1 := Int32.le_iff_toInt_le.mp h
  have e2 := Int32.lt_iff_toInt_lt.mp z
  omega
theorem nle_lt {a b : Int32} (h : ¬ a ≤ b) : b < a := Int32.lt_iff_toInt_lt.mpr (by
  have e1 := mt Int32.le_iff_toInt_le.mpr h
  omega)
theorem nlt_le {a b : Int32} (h : ¬ a < b) : b ≤ a := Int32.le_iff_toInt_le.mpr (by
  have e1 := mt Int32.lt_iff_toInt_lt.mpr h
  omega)
theorem wnt {K N : rd_M} {d : Nat} (h : ((K (37 + 8 * d)).1 10 = -1 ∧ (N 16).1 d = -1) ∨ ∃ w, w < 4 ∧ (K (37 + 8 * d)).1 10 = nI w ∧ (N 16).1 d = nI w ∧ (K (37 + 8 * d)).1 11 = (N 17).1 d) : (K (37 + 8 * d)).1 10 = (N 16).1 d ∧ ((N 16).1 d = -1 ∨ ∃ w, w < 4 ∧ (N 16).1 d = nI w) := by
  rcases h with ⟨a, b⟩ | ⟨w, w1, w2, w3, -⟩
  · exact ⟨by rw [a, b], Or.inl b⟩
  · exact ⟨by rw [w2, w3], Or.inr ⟨w, w1, w3⟩⟩
theorem sim_renew {u : Nat} {K N : rd_M} (h : qR u 10 K N) (hu : u < 400000) (p1 p2 p3 : Int32) : qS Eq (u + 1) K (f_K_renew K p1 p2 p3) (f_N_renew N p1 p2 p3) := by
  have h' : qR (u + 1) 10 K N := h.up (by omega) (by omega)
  obtain ⟨t, t1, t2, t3⟩ := h.2.1
  unfold f_K_renew f_N_renew f_D_setGrace
  simp only [f_regb, f_namb, f_rrb, f_inb, f_fail, f_give, fe_bind]
  by_cases h1 : 0 ≤ p1 ∧ p1 ≤ 3
  · by_cases h2 : 0 ≤ p2 ∧ p2 ≤ 9
    · by_cases h3 : 1 ≤ p3 ∧ p3 ≤ 3
      · obtain ⟨d, hd, rfl⟩ := rg_of (n := 9) (by decide) h2
        have hd : d < 10 := by omega
        obtain ⟨r, hr, rfl⟩ := rg_of (n := 3) (by decide) h1
        have hr : r < 4 := by omega
        obtain ⟨y, hy, rfl⟩ := rg13 h3
        simp only [if_pos h1, if_pos h2, if_pos h3, kdtb hd, barb hd, ownb, stab, unlb, notb, if_pos (ri hd (show 10 < 2 ^ 31 by decide)), ev_c (show d < 2 ^ 31 by omega), fe_k, if_pos in15, cn1]
        rcases h.dm hd with ⟨a, b⟩ | ⟨a, ⟨o, o1, o2, o3⟩, b1, b2, b3, b4, b5, b6, b7, b8⟩
        · simp only [if_pos a, b, if_neg im1]; exact qS_2 h'
        · obtain ⟨w1, w2⟩ := wnt b6
          simp only [a, o2, o3, b1, b3, b4, w1, t2, t3, if_neg h10, if_pos (nI_pos' (show o < 2 ^ 31 by omega)), Int32.mul_comm (nI y) 10]
          by_cases g : nI o = nI r ∧ (N 13).1 d &&& 8 = 0 ∧ (N 14).1 d = 0
          · simp only [if_pos g, if_pos g.1, if_pos g.2.1, if_pos g.2.2]
            rcases w2 with w2 | ⟨w, w3, w2⟩
            · simp only [w2, if_true, if_neg im1]
              by_cases g4 : (N 11).1 d + 10 * nI y ≤ nI t + 50
              · simp only [if_pos g4, if_neg (le_lt g4)]
                obtain ⟨ca, cb, c2, c3, c4, c5, c6⟩ := payForB (h.ex (e := d)) hu hr (k := 1) (kk := 1) (y := nI y) (yy := y) rfl (by omega) rfl hy
                rcases c6 with ⟨e1, e2⟩ | ⟨e1, K', e2, e3, e4⟩
                · simp only [e1, e2, fe_bind, fe_bl, if_true]; exact qS_4 h'
                · simp only [e1, e2, fe_bind, fe_br, if_neg h10, payN c2 hr (show (1 : Int32) = nI 1 from rfl) (by omega) hd (show (1 : Int32) = nI 1 from rfl) (by omega)]
                  have ed : ((rd_iU K' (37 + 8 * d) 5 ((N 11).1 d + 10 * nI y)) 0).1 4 = nI t := by rw [me_ic (by omega), e3 _ (by omega)]; exact t2
                  rw [ed]
                  refine qS_0 ?_ (((((((e4.kw hd (by omega) (by omega) (fun z => absurd z (by omega))).kd hd (by omega) (by omega)).kw hd (by omega) (by omega) (fun z => absurd z (by omega))).nl (by unfold qO; omega)).nw (by unfold qO; omega) (fun z => absurd z (by decide))).nw (by unfold qO; omega) (fun z => absurd z (by decide))).cl (Or.inr ⟨?_, ⟨o, o1, ?_, ?_⟩, ?_, ?_, ?_, ?_, ?_, ?_, fun w hw => ?_, fun k hk => ?_⟩))
                  · simp (disch := omega) only [me_ii, me_in, me_il, me_li, me_ld, me_ll, me_ln, me_di, me_dl, me_dd, me_dn]
                  · simp (disch := omega) only [me_ii, me_in, me_il, me_li, me_ld, me_ll, me_ln, me_di, me_dl, me_dd, me_dn, e3]; exact a
                  · simp (disch := omega) only [me_ii, me_in, me_il, me_li, me_ld, me_ll, me_ln, me_di, me_dl, me_dd, me_dn, e3]; exact o2
                  · simp (disch := omega) only [me_ii, me_in, me_il, me_li, me_ld, me_ll, me_ln, me_di, me_dl, me_dd, me_dn, e3]; exact o3
                  · simp (disch := omega) only [me_ii, me_in, me_il, me_li, me_ld, me_ll, me_ln, me_di, me_dl, me_dd, me_dn, e3]
                  · simp (disch := omega) only [me_ii, me_in, me_il, me_li, me_ld, me_ll, me_ln, me_di, me_dl, me_dd, me_dn, e3]; exact b2
                  · simp (disch := omega) only [me_ii, me_in, me_il, me_li, me_ld, me_ll, me_ln, me_di, me_dl, me_dd, me_dn, e3]; exact b3
                  · simp (disch := omega) only [me_ii, me_in, me_il, me_li, me_ld, me_ll, me_ln, me_di, me_dl, me_dd, me_dn, e3]; exact b4
                  · simp (disch := omega) only [me_ii, me_in, me_il, me_li, me_ld, me_ll, me_ln, me_di, me_dl, me_dd, me_dn, e3]; exact b5
                  · simp (disch := omega) only [me_ii, me_in, me_il, me_li, me_ld, me_ll, me_ln, me_di, me_dl, me_dd, me_dn, e3]; exact b6
                  · exact (b7 w hw).cg (by simp (disch := omega) only [me_ii, me_in, me_il, me_li, me_ld, me_ll, me_ln, me_di, me_dl, me_dd, me_dn, e3]) (fun i _ => by simp (disch := omega) only [me_ii, me_in, me_il, me_li, me_ld, me_ll, me_ln, me_di, me_dl, me_dd, me_dn, e3]) (by simp (disch := omega) only [me_ii, me_in, me_il, me_li, me_ld, me_ll, me_ln, me_di, me_dl, me_dd, me_dn]) (fun i _ => by simp (disch := omega) only [me_ii, me_in, me_il, me_li, me_ld, me_ll, me_ln, me_di, me_dl, me_dd, me_dn])
                  · by_cases ek : k = 1
                    · subst ek
                      unfold qG
                      simp (disch := omega) only [me_ii, me_in, me_il, me_li, me_ld, me_ll, me_ln, me_di, me_dl, me_dd, me_dn]
                      exact ⟨by rw [t3]; rfl, Or.inr ⟨by decide, c3, c4, c5⟩⟩
                    · exact (b8 k hk).cg (by simp (disch := omega) only [me_ii, me_in, me_il, me_li, me_ld, me_ll, me_ln, me_di, me_dl, me_dd, me_dn, e3]) (by simp (disch := omega) only [me_ii, me_in, me_il, me_li, me_ld, me_ll, me_ln, me_di, me_dl, me_dd, me_dn, e3]) (by simp (disch := omega) only [me_ii, me_in, me_il, me_li, me_ld, me_ll, me_ln, me_di, me_dl, me_dd, me_dn]) (by simp (disch := omega) only [me_ii, me_in, me_il, me_li, me_ld, me_ll, me_ln, me_di, me_dl, me_dd, me_dn])
              · simp only [if_neg g4, if_pos (nle_lt g4)]; exact qS_4 h'
            · simp only [w2, em1 (show w < 2 ^ 31 by omega), if_false, if_pos (nI_pos' (show w < 2 ^ 31 by omega))]; exact qS_4 h'
          · simp only [if_neg g]
            by_cases g1 : nI o = nI r
            · by_cases g2 : (N 14).1 d = 0
              · have g3 : ¬ (N 13).1 d &&& 8 = 0 := fun z => g ⟨g1, z, g2⟩
                simp only [if_pos g1, if_pos g2, if_neg g3]; exact qS_3 h'
              · simp only [if_pos g1, if_neg g2]; exact qS_3 h'
            · simp only [if_neg g1]; exact qS_3 h'
      · simp only [if_pos h1, if_pos h2, if_neg h3]; exact qS_1 h'
    · simp only [if_pos h1, if_neg h2]; exact qS_1 h'
  · simp only [if_neg h1]; exact qS_1 h'
theorem sim_ask {u : Nat} {K N : rd_M} (h : qR u 10 K N) (p1 p2 p3 : Int32) : qS Eq u K (f_K_ask K p1 p2 p3) (f_N_ask N p1 p2 p3) := by
  obtain ⟨t, t1, t2, t3⟩ := h.2.1
  unfold f_K_ask f_N_ask
  simp only [f_regb, f_namb, f_rrb, f_inb, f_fail, f_give, fe_bind]
  by_cases h1 : 0 ≤ p1 ∧ p1 ≤ 3
  · by_cases h2 : 0 ≤ p2 ∧ p2 ≤ 9
    · by_cases h3 : 0 ≤ p3 ∧ p3 ≤ 99
      · obtain ⟨d, hd, rfl⟩ := rg_of (n := 9) (by decide) h2
        have hd : d < 10 := by omega
        obtain ⟨r, hr, rfl⟩ := rg_of (n := 3) (by decide) h1
        have hr : r < 4 := by omega
        simp only [if_pos h1, if_pos h2, if_pos h3, kdtb hd, ndmb hd, ownb, stab, unlb, notb, if_pos (ri hd (show 10 < 2 ^ 31 by decide)), ev_c (show d < 2 ^ 31 by omega), fe_k]
        rcases h.dm hd with ⟨a, b⟩ | ⟨a, ⟨o, o1, o2, o3⟩, b1, b2, b3, b4, b5, b6, b7, b8⟩
        · simp only [if_pos a, b, if_neg im1]; exact qS_2 h
        · obtain ⟨w1, w2⟩ := wnt b6
          simp only [a, o2, o3, b2, b3, b4, w1, if_neg h10, if_pos (nI_pos' (show o < 2 ^ 31 by omega))]
          by_cases g1 : nI o = nI r
          · simp only [if_pos g1]; exact qS_3 h
          · simp only [if_neg g1]
            by_cases g2 : (N 12).1 d = p3
            · simp only [if_pos g2]
              by_cases g3 : (N 13).1 d &&& 4 = 0
              · by_cases g4 : (N 14).1 d = 0
                · simp only [if_pos g3, if_pos g4]
                  rcases w2 with w2 | ⟨w, w3, w2⟩
                  · simp only [w2, if_true, if_pos (show (-1 : Int32) < 0 by decide)]
                    have ek : ((rd_iU K (37 + 8 * d) 10 (nI r)) 0).1 4 = nI t := by rw [me_ic (by omega)]; exact t2
                    have en : ((rd_iU N 16 d (nI r)) 0).1 1 = nI t := by rw [me_ic (by omega)]; exact t3
                    rw [ek, en]
                    have eo : ((rd_iU (rd_iU K (37 + 8 * d) 10 (nI r)) (37 + 8 * d) 11 (nI t + 4)) (37 + 8 * d)).1 4 = nI o := by simp (disch := omega) only [me_ii, me_in, me_il, me_li, me_ld, me_ll, me_ln, me_di, me_dl, me_dd, me_dn]; exact o2
                    have eq : ((rd_iU (rd_iU N 16 d (nI r)) 17 d (nI t + 4)) 10).1 d = nI o := by simp (disch := omega) only [me_ii, me_in, me_il, me_li, me_ld, me_ll, me_ln, me_di, me_dl, me_dd, me_dn]; exact o3
                    rw [eo, eq]
                    have hq : qR u 10 (rd_iU (rd_iU K (37 + 8 * d) 10 (nI r)) (37 + 8 * d) 11 (nI t + 4)) (rd_iU (rd_iU N 16 d (nI r)) 17 d (nI t + 4)) := by
                      refine (((((h.ex (e := d)).kw hd (by omega) (by omega) (fun z => absurd z (by omega))).kw hd (by omega) (by omega) (fun z => absurd z (by omega))).nw (by unfold qO; omega) (fun z => absurd z (by decide))).nw (by unfold qO; omega) (fun z => absurd z (by decide))).cl (Or.inr ⟨?_, ⟨o, o1, eo, eq⟩, ?_, ?_, ?_, ?_, ?_, Or.inr ⟨r, hr, ?_, ?_, ?_⟩, fun w hw => ?_, fun k hk => ?_⟩)
                      · simp (disch := omega) only [me_ii, me_in, me_il, me_li, me_ld, me_ll, me_ln, me_di, me_dl, me_dd, me_dn]; exact a
                      · simp (disch := omega) only [me_ii, me_in, me_il, me_li, me_ld, me_ll, me_ln, me_di, me_dl, me_dd, me_dn]; exact b1
                      · simp (disch := omega) only [me_ii, me_in, me_il, me_li, me_ld, me_ll, me_ln, me_di, me_dl, me_dd, me_dn]; exact b2
                      · simp (disch := omega) only [me_ii, me_in, me_il, me_li, me_ld, me_ll, me_ln, me_di, me_dl, me_dd, me_dn]; exact b3
                      · simp (disch := omega) only [me_ii, me_in, me_il, me_li, me_ld, me_ll, me_ln, me_di, me_dl, me_dd, me_dn]; exact b4
                      · simp (disch := omega) only [me_ii, me_in, me_il, me_li, me_ld, me_ll, me_ln, me_di, me_dl, me_dd, me_dn]; exact b5
                      · simp (disch := omega) only [me_ii, me_in, me_il, me_li, me_ld, me_ll, me_ln, me_di, me_dl, me_dd, me_dn]
                      · simp (disch := omega) only [me_ii, me_in, me_il, me_li, me_ld, me_ll, me_ln, me_di, me_dl, me_dd, me_dn]
                      · simp (disch := omega) only [me_ii, me_in, me_il, me_li, me_ld, me_ll, me_ln, me_di, me_dl, me_dd, me_dn]
                      · exact (b7 w hw).cg (by simp (disch := omega) only [me_ii, me_in, me_il, me_li, me_ld, me_ll, me_ln, me_di, me_dl, me_dd, me_dn]) (fun i _ => by simp (disch := omega) only [me_ii, me_in, me_il, me_li, me_ld, me_ll, me_ln, me_di, me_dl, me_dd, me_dn]) (by simp (disch := omega) only [me_ii, me_in, me_il, me_li, me_ld, me_ll, me_ln, me_di, me_dl, me_dd, me_dn]) (fun i _ => by simp (disch := omega) only [me_ii, me_in, me_il, me_li, me_ld, me_ll, me_ln, me_di, me_dl, me_dd, me_dn])
                      · exact (b8 k hk).cg (by simp (disch := omega) only [me_ii, me_in, me_il, me_li, me_ld, me_ll, me_ln, me_di, me_dl, me_dd, me_dn]) (by simp (disch := omega) only [me_ii, me_in, me_il, me_li, me_ld, me_ll, me_ln, me_di, me_dl, me_dd, me_dn]) (by simp (disch := omega) only [me_ii, me_in, me_il, me_li, me_ld, me_ll, me_ln, me_di, me_dl, me_dd, me_dn]) (by simp (disch := omega) only [me_ii, me_in, me_il, me_li, me_ld, me_ll, me_ln, me_di, me_dl, me_dd, me_dn])
                    obtain ⟨K', N', d1, d2, d3, d4, d5⟩ := tellB hq o1 1 (nI d)
                    simp only [if_pos (ri o1 (show 4 < 2 ^ 31 by decide)), ev_c (show o < 2 ^ 31 by omega), d1, d2, fe_bind]
                    refine qS_0 ?_ d3
                    rw [d4 _ (by omega), d5 _ (by omega) (by omega)]
                    simp (disch := omega) only [me_ii, me_in, me_il, me_li, me_ld, me_ll, me_ln, me_di, me_dl, me_dd, me_dn]
                  · simp only [w2, em1 (show w < 2 ^ 31 by omega), if_false, if_neg (nI_pos (show w < 2 ^ 31 by omega))]; exact qS_4 h
                · simp only [if_pos g3, if_neg g4]; exact qS_3 h
              · by_cases g4 : (N 14).1 d = 0
                · simp only [if_neg g3, if_pos g4]; exact qS_3 h
                · simp only [if_neg g3, if_neg g4]; exact qS_3 h
            · simp only [if_neg g2]; exact qS_3 h
      · simp only [if_pos h1, if_pos h2, if_neg h3]; exact qS_1 h
    · simp only [if_pos h1, if_neg h2]; exact qS_1 h
  · simp only [if_neg h1]; exact qS_1 h
