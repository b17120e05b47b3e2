/-! change -/
theorem thW {u : Nat} {K N : rd_M} (h : qR u 10 K N) {p : Int32} (hp : 0 ≤ p ∧ p ≤ 1) (x : Int32) : (f_N_noThing N p x = some 1 ∧ f_K_thingThere K p x = some (.inl "java/util/NoSuchElementException")) ∨ (f_N_noThing N p x = some 0 ∧ (∃ n, n < 8 ∧ x = nI n) ∧ ∃ q, f_K_thingThere K p x = some (.inr q)) := by
  rcases rg01 hp with rfl | rfl
  · rcases thC h.2.2.2.2.1 x with ⟨a, b, -⟩ | ⟨n, n8, e, a, b, -⟩
    · exact Or.inl ⟨a, b⟩
    · exact Or.inr ⟨a, ⟨n, n8, e⟩, _, b⟩
  · rcases thH h.2.2.2.2.2.1 x with ⟨a, b, -⟩ | ⟨n, n8, e, a, b, -⟩
    · exact Or.inl ⟨a, b⟩
    · exact Or.inr ⟨a, ⟨n, n8, e⟩, _, b⟩
theorem sim_change {u : Nat} {K N : rd_M} (h : qR u 10 K N) (p1 p2 p3 p4 p5 : Int32) : qS Eq u K (f_K_change K p1 p2 p3 p4 p5) (f_N_change N p1 p2 p3 p4 p5) := by
  unfold f_K_change f_N_change
  simp only [f_regb, f_namb, f_rrb, f_inb, f_fail, f_give, fe_bind]
  by_cases h1 : 0 ≤ p1 ∧ p1 ≤ 3
  · by_cases h2 : 0 ≤ p2 ∧ p2 ≤ 9
    · by_cases h3 : 0 ≤ p3 ∧ p3 ≤ 1
      · obtain ⟨d, hd, rfl⟩ := rg_of (n := 9) (by decide) h2
        have hd : d < 10 := by omega
        obtain ⟨w, hw, hW⟩ := rg_of (n := 1) (by decide) h3
        have hw : w < 2 := by omega
        have ew : p3.toNatClampNeg = w := by rw [hW]; exact ev_c (by omega)
        have i2 : (2 * nI d) + p3 = nI (2 * d + w) := by rw [hW, em2, nI_add]
        have i6 : (6 * nI d) + (3 * p3) = nI (6 * d + 3 * w) := by rw [hW, em6, em3, nI_add]
        have r2 : rd_in p3 2 := by rw [hW]; exact ri hw (by decide)
        simp only [if_pos h1, if_pos h2, if_pos h3, kdtb hd, ndmb hd, barb hd, ownb, stab, unlb, if_pos (ri hd (show 10 < 2 ^ 31 by decide)), ev_c (show d < 2 ^ 31 by omega), fe_k, if_pos r2, ew, i2, i6, if_pos (ri (show 2 * d + w < 20 by omega) (show 20 < 2 ^ 31 by decide)), ev_c (show 2 * d + w < 2 ^ 31 by omega)]
        rcases h.dm hd with ⟨a, b⟩ | ⟨a, ⟨o, o1, o2, o3⟩, b1, b2, b3, b4, b5, b6, b7, b8⟩
        · simp only [if_pos a, b, if_neg im1]; exact qS_2 h
        · simp only [a, o2, o3, b3, b4, if_neg h10, if_pos (nI_pos' (show o < 2 ^ 31 by omega))]
          rcases thW h h3 p4 with ⟨x1, x2⟩ | ⟨x1, x9, q, x2⟩
          · simp only [x1, x2, fe_bind, fe_bl, if_neg h10]; exact qS_2 h
          · simp only [x1, x2, fe_bind, fe_br, if_true]
            by_cases g : nI o = p1 ∧ (N 13).1 d &&& 1 = 0 ∧ (N 14).1 d = 0
            · simp only [if_pos g, if_pos g.1, if_pos g.2.1, if_pos g.2.2]
              obtain ⟨s, v, s1, s2, s3, e1, e2, e3⟩ := plB p4 hW hd hw (b7 w hw)
              simp only [f_K_requireTakeable, f_K_requireAddable, f_R_append, e1, e2, s2, s3, fe_bind]
              by_cases g5 : p5 = 0
              · simp only [if_pos g5]
                rcases e3 with rfl | ⟨p, ps, p3', rfl⟩
                · simp only [if_true, if_pos (show (-1 : Int32) < 0 by decide), fe_bl]; exact qS_4 h
                · obtain ⟨m, rfl⟩ : ∃ m, s = m + 1 := ⟨s - 1, by omega⟩
                  obtain ⟨K', N', t1, t2, t3, t4, t5, -, -⟩ := takeB h hW hd hw s1 s2 s3 ps e1 (fun _ => b7 w hw)
                  simp only [em1 (show p < 2 ^ 31 by omega), if_false, if_neg (nI_pos (show p < 2 ^ 31 by omega))]
                  by_cases g6 : p3 = 0
                  · simp only [if_pos g6]
                    by_cases g7 : m = 0
                    · subst g7
                      simp only [if_neg (show ¬ (1 : Int32) < nI (0 + 1) by decide), if_pos (show nI (0 + 1) = 1 from rfl), fe_bl]; exact qS_4 h
                    · simp only [if_pos (show (1 : Int32) < nI (m + 1) from nI_lt (a := 1) (b := m + 1) (by omega) (by omega)), if_neg (show ¬ nI (m + 1) = 1 by rw [eq1 (by omega)]; omega), fe_br, t1, t2, fe_bind, t4, t5]
                      exact qS_0 rfl t3
                  · simp only [if_neg g6, if_pos (show (0 : Int32) < nI (m + 1) from nI_lt (a := 0) (b := m + 1) (by omega) (by omega)), fe_br, t1, t2, fe_bind, t4, t5]
                    exact qS_0 rfl t3
              · simp only [if_neg g5]
                rcases e3 with rfl | ⟨p, ps, p3', rfl⟩
                · simp only [if_true, if_neg im1]
                  by_cases g7 : s = 3
                  · subst g7
                    simp only [if_neg (show ¬ nI 3 < 3 by decide), if_pos (show nI 3 = 3 from rfl), fe_bl]; exact qS_4 h
                  · have hs : s < 3 := by omega
                    have q1 : nI s < 3 := by rw [elt3 (by omega)]; exact hs
                    have q2 : ¬ nI s = 3 := by rw [eq3 (by omega)]; exact g7
                    have q3 : ¬ 3 ≤ nI s := fun z => le_lt z q1
                    have q4 : ((rd_iU K (40 + 8 * d + 2 * w) s p4) (39 + 8 * d + 2 * w)).1 1 = nI s := by rw [me_ic (by omega)]; exact s2
                    have q5 : ((rd_iU N 18 (6 * d + 3 * w + s) p4) 19).1 (2 * d + w) = nI s := by rw [me_ic (by decide)]; exact s3
                    simp only [if_pos q1, if_neg q2, if_neg q3, fe_br, nI_add, if_pos (ri hs (show 3 < 2 ^ 31 by decide)), if_pos (ri (show 6 * d + 3 * w + s < 60 by omega) (show 60 < 2 ^ 31 by decide)), ev_c (show s < 2 ^ 31 by omega), ev_c (show 6 * d + 3 * w + s < 2 ^ 31 by omega), fe_k, fe_bind, q4, q5, ea1, me_ii rfl rfl]
                    exact qS_0 rfl (addB h hd hw hs s2 s3 (b7 w hw) p4 x9)
                · simp only [em1 (show p < 2 ^ 31 by omega), if_false, if_pos (nI_pos' (show p < 2 ^ 31 by omega)), fe_bl]; exact qS_4 h
            · simp only [if_neg g]
              by_cases g1 : nI o = p1
              · by_cases g2 : (N 14).1 d = 0
                · have g3 : ¬ (N 13).1 d &&& 1 = 0 := fun z => g ⟨g1, z, g2⟩
                  simp only [if_pos g1, if_pos g2, if_neg g3]; exact qS_3 h
                · simp only [if_pos g1, if_neg g2]; exact qS_3 h
              · simp only [if_neg g1]; exact qS_3 h
      · simp only [if_pos h1, if_pos h2, if_neg h3]; exact qS_1 h
    · simp only [if_pos h1, if_neg h2]; exact qS_1 h
  · simp only [if_neg h1]; exact qS_1 h
/-! host -/
theorem mkH {u r c : Nat} {K N : rd_M} (h : qR u 10 K N) (hr : r < 4) (hc : c < 8) (c2 : (K (16 + 10 * 1)).1 1 = nI c) (c3 : (N 0).1 9 = nI c) (x y : Int32) : qR u 10 (rd_iU (rd_iU (rd_iU (rd_iU (rd_iU K (18 + 10 * 1 + c) 0 1) (18 + 10 * 1 + c) 1 (nI r)) (18 + 10 * 1 + c) 2 x) (18 + 10 * 1 + c) 3 y) (16 + 10 * 1) 1 (nI (c + 1))) (rd_iU (rd_iU (rd_iU (rd_iU N 7 c (nI r)) 9 c x) 8 c y) 0 9 (nI (c + 1))) := by
  obtain ⟨c0, c1, c2', c3', c4⟩ := h.2.2.2.2.2.1
  obtain rfl : c0 = c := by rw [c2, eII (by omega) (by omega)] at c2'; exact c2'.symm
  refine h.ho (fun x hx => by simp (disch := omega) only [me_ic]) (fun x h0 h7 h8 h9 => by rw [me_ic h0, me_ic h8, me_ic h9, me_ic h7]) (by simp (disch := omega) only [me_ii, me_in, me_il, me_li, me_ld, me_ll, me_ln, me_di, me_dl, me_dd, me_dn]) (by simp (disch := omega) only [me_ii, me_in, me_il, me_li, me_ld, me_ll, me_ln, me_di, me_dl, me_dd, me_dn]) ⟨c0 + 1, by omega, me_ii rfl rfl, me_ii rfl rfl, fun i hi => ?_⟩
  by_cases e1 : i = c0
  · subst e1
    refine ⟨Or.inr ⟨?_, ?_, r, hr, ?_⟩, fun _ => ⟨?_, ?_⟩⟩
    · simp (disch := omega) only [me_ii, me_in, me_il, me_li, me_ld, me_ll, me_ln, me_di, me_dl, me_dd, me_dn]
    · simp (disch := omega) only [me_ii, me_in, me_il, me_li, me_ld, me_ll, me_ln, me_di, me_dl, me_dd, me_dn]
    · simp (disch := omega) only [me_ii, me_in, me_il, me_li, me_ld, me_ll, me_ln, me_di, me_dl, me_dd, me_dn]
    · simp (disch := omega) only [me_ii, me_in, me_il, me_li, me_ld, me_ll, me_ln, me_di, me_dl, me_dd, me_dn]
    · simp (disch := omega) only [me_ii, me_in, me_il, me_li, me_ld, me_ll, me_ln, me_di, me_dl, me_dd, me_dn]
  · have ek : (rd_iU (rd_iU (rd_iU (rd_iU (rd_iU K (18 + 10 * 1 + c0) 0 1) (18 + 10 * 1 + c0) 1 (nI r)) (18 + 10 * 1 + c0) 2 x) (18 + 10 * 1 + c0) 3 y) (16 + 10 * 1) 1 (nI (c0 + 1))) (18 + 10 * 1 + i) = K (18 + 10 * 1 + i) := by simp (disch := omega) only [me_ic]
    rw [ek]
    simp (disch := omega) only [me_ii, me_in, me_il, me_li, me_ld, me_ll, me_ln, me_di, me_dl, me_dd, me_dn]
    exact c4 i (by omega)
theorem sim_host {u : Nat} {K N : rd_M} (h : qR u 10 K N) (p1 p2 p3 : Int32) : qS Eq u K (f_K_host K p1 p2 p3) (f_N_host N p1 p2 p3) := by
  obtain ⟨c, c1, c2, c3, c4⟩ := h.2.2.2.2.2.1
  unfold f_K_host f_N_host f_K_requireShelfRoom f_S_make
  simp only [f_regb, f_rrb, f_inb, f_fail, f_give, fe_bind, fe_k]
  by_cases h1 : 0 ≤ p1 ∧ p1 ≤ 3
  · by_cases h2 : -1 ≤ p2 ∧ p2 ≤ 9
    · simp only [if_pos h1, if_pos h2]
      obtain ⟨r, hr, rfl⟩ := rg_of (n := 3) (by decide) h1
      have hr : r < 4 := by omega
      by_cases g2 : p2 = -1
      · subst g2
        simp only [if_true, if_neg im1, if_pos (show (-1 : Int32) < 0 by decide)]
        by_cases g3 : p3 = 0
        · subst g3
          simp only [if_pos (show (0 : Int32) ≤ 0 ∧ (0 : Int32) ≤ 0 by decide), if_pos (show (0 : Int32) ≤ 0 ∧ (0 : Int32) ≤ 999 by decide), if_true, c2, c3]
          by_cases h8 : c = 8
          · subst h8
            simp only [if_neg (show ¬ nI 8 < 8 by decide), if_pos (show nI 8 = 8 from rfl), fe_bl]; exact qS_4 h
          · have hc : c < 8 := by omega
            have g1 : nI c < 8 := by rw [elt8 (by omega)]; exact hc
            have g2 : ¬ nI c = 8 := by rw [eq8 (by omega)]; exact h8
            have n1 : ∀ v, ((rd_iU N 7 c v) 0).1 9 = nI c := fun v => by rw [me_ic (by decide)]; exact c3
            have n2 : ∀ v z, ((rd_iU (rd_iU N 7 c v) 9 c z) 0).1 9 = nI c := fun v z => by rw [me_ic (by decide), me_ic (by decide)]; exact c3
            have n3 : ∀ v z y, ((rd_iU (rd_iU (rd_iU N 7 c v) 9 c z) 8 c y) 0).1 9 = nI c := fun v z y => by rw [me_ic (by decide), me_ic (by decide), me_ic (by decide)]; exact c3
            have m5 : ∀ v z y, ((rd_iU (rd_iU (rd_iU (rd_iU K (18 + 10 * 1 + c) 0 1) (18 + 10 * 1 + c) 1 v) (18 + 10 * 1 + c) 2 z) (18 + 10 * 1 + c) 3 y) (16 + 10 * 1)).1 1 = nI c := fun v z y => by rw [me_ic (by omega), me_ic (by omega), me_ic (by omega), me_ic (by omega)]; exact c2
            simp only [if_pos g1, if_neg g2, fe_br, if_pos (ri hc (show 8 < 2 ^ 31 by decide)), ev_c (show c < 2 ^ 31 by omega), fe_k, fe_bind, n1, n2, n3, m5, ea1, me_ii rfl rfl]
            exact qS_0 rfl (mkH h hr hc c2 c3 _ _)
        · have q1 : ¬ (0 ≤ p3 ∧ p3 ≤ 0) := fun z => g3 (Int32.toInt_inj.mp (by have e1 := Int32.le_iff_toInt_le.mp z.1; have e2 := Int32.le_iff_toInt_le.mp z.2; omega))
          simp only [if_neg q1, if_neg g3, if_neg h10]
          by_cases q2 : 0 ≤ p3 ∧ p3 ≤ 999
          · simp only [if_pos q2]; exact qS_1 h
          · simp only [if_neg q2]; exact qS_1 h
      · have g4 : 0 ≤ p2 ∧ p2 ≤ 9 := ⟨Int32.le_iff_toInt_le.mpr (by
          have e1 := Int32.le_iff_toInt_le.mp h2.1
          have e2 : ¬ p2.toInt = (-1 : Int32).toInt := fun z => g2 (Int32.toInt_inj.mp z)
          have e3 : (-1 : Int32).toInt = -1 := rfl
          have e4 : (0 : Int32).toInt = 0 := rfl
          omega), h2.2⟩
        obtain ⟨d, hd, rfl⟩ := rg_of (n := 9) (by decide) g4
        have hd : d < 10 := by omega
        simp only [if_neg g2, if_pos g4.1, if_neg (nI_pos (show d < 2 ^ 31 by omega)), kdtb hd, ndmb hd, ownb, if_pos (ri hd (show 10 < 2 ^ 31 by decide)), ev_c (show d < 2 ^ 31 by omega)]
        by_cases g3 : 1 ≤ p3 ∧ p3 ≤ 999
        · have q0 : ¬ p3 = 0 := fun z => absurd g3.1 (by rw [z]; decide)
          have q2 : 0 ≤ p3 ∧ p3 ≤ 999 := ⟨Int32.le_iff_toInt_le.mpr (by have := Int32.le_iff_toInt_le.mp g3.1; have e : (1 : Int32).toInt = 1 := rfl; have e2 : (0 : Int32).toInt = 0 := rfl; omega), g3.2⟩
          simp only [if_pos g3, if_pos q2, if_neg q0, if_true]
          rcases h.dm hd with ⟨a, b⟩ | ⟨a, ⟨o, o1, o2, o3⟩, -⟩
          · simp only [if_pos a, b, if_neg im1]; exact qS_2 h
          · simp only [a, o2, o3, if_neg h10, if_pos (nI_pos' (show o < 2 ^ 31 by omega)), c2, c3]
            by_cases g1 : nI o = nI r
            · simp only [if_pos g1]
              by_cases h8 : c = 8
              · subst h8
                simp only [if_neg (show ¬ nI 8 < 8 by decide), if_pos (show nI 8 = 8 from rfl), fe_bl]; exact qS_4 h
              · have hc : c < 8 := by omega
                have g1 : nI c < 8 := by rw [elt8 (by omega)]; exact hc
                have g2 : ¬ nI c = 8 := by rw [eq8 (by omega)]; exact h8
                have n1 : ∀ v, ((rd_iU N 7 c v) 0).1 9 = nI c := fun v => by rw [me_ic (by decide)]; exact c3
                have n2 : ∀ v z, ((rd_iU (rd_iU N 7 c v) 9 c z) 0).1 9 = nI c := fun v z => by rw [me_ic (by decide), me_ic (by decide)]; exact c3
                have n3 : ∀ v z y, ((rd_iU (rd_iU (rd_iU N 7 c v) 9 c z) 8 c y) 0).1 9 = nI c := fun v z y => by rw [me_ic (by decide), me_ic (by decide), me_ic (by decide)]; exact c3
                have m5 : ∀ v z y, ((rd_iU (rd_iU (rd_iU (rd_iU K (18 + 10 * 1 + c) 0 1) (18 + 10 * 1 + c) 1 v) (18 + 10 * 1 + c) 2 z) (18 + 10 * 1 + c) 3 y) (16 + 10 * 1)).1 1 = nI c := fun v z y => by rw [me_ic (by omega), me_ic (by omega), me_ic (by omega), me_ic (by omega)]; exact c2
                simp only [if_pos g1, if_neg g2, fe_br, if_pos (ri hc (show 8 < 2 ^ 31 by decide)), ev_c (show c < 2 ^ 31 by omega), fe_k, fe_bind, n1, n2, n3, m5, ea1, me_ii rfl rfl]
                exact qS_0 rfl (mkH h hr hc c2 c3 _ _)
            · simp only [if_neg g1]; exact qS_3 h
        · simp only [if_neg g3]
          by_cases q2 : 0 ≤ p3 ∧ p3 ≤ 999
          · have q0 : p3 = 0 := Int32.toInt_inj.mp (by
              have e1 := Int32.le_iff_toInt_le.mp q2.1
              have e2 := mt (fun z => (⟨Int32.le_iff_toInt_le.mpr z, q2.2⟩ : 1 ≤ p3 ∧ p3 ≤ 999)) g3
              have e : (1 : Int32).toInt = 1 := rfl
              have e4 : (0 : Int32).toInt = 0 := rfl
              omega)
            simp only [if_pos q2, if_pos q0, if_neg (show ¬ (0 : Int32) = 1 by decide)]; exact qS_1 h
          · simp only [if_neg q2]; exact qS_1 h
    · simp only [if_pos h1, if_neg h2]; exact qS_1 h
  · simp only [if_neg h1]; exact qS_1 h
