/-! create -/
theorem cpN {N N' : rd_M} (h1 : N' 1 = N 1) (h2 : N' 2 = N 2) (p k y : Int32) : f_N_canPay N' p k y = f_N_canPay N p k y := by
  unfold f_N_canPay f_N_cost
  rw [h1, h2]
theorem openK (K : rd_M) (d : Nat) (p1 p2 p3 p4 : Int32) : ∃ K', f_D_open K d p1 p2 p3 p4 = some K' ∧ (∀ c, c < 37 + 8 * d ∨ 44 + 8 * d < c → K' c = K c) ∧ (K' (37 + 8 * d)).1 3 = 1 ∧ (K' (37 + 8 * d)).1 4 = p1 ∧ (K' (37 + 8 * d)).1 5 = p2 ∧ (K' (37 + 8 * d)).1 6 = p3 ∧ (K' (37 + 8 * d)).1 7 = 0 ∧ (K' (37 + 8 * d)).1 8 = 0 ∧ (K' (37 + 8 * d)).1 10 = -1 ∧ (K' (39 + 8 * d + 2 * 0)).1 1 = nI 1 ∧ (K' (40 + 8 * d + 2 * 0)).1 0 = p4 ∧ (K' (39 + 8 * d + 2 * 1)).1 1 = nI 0 ∧ ∀ k, k < 5 → (K' (44 + 8 * d)).1 k = -1 := by
  unfold f_D_open f_D_enter f_R_append
  simp only [fe_k, fe_bind, me_ii rfl rfl, if_neg (show ¬ (3 : Int32) ≤ 0 by decide), if_pos (show rd_in 0 3 by decide), cn0]
  obtain ⟨K', e1, e2, e3⟩ := cgK (rd_iU (rd_iU (rd_iU (rd_iU (rd_iU (rd_iU (rd_iU (rd_iU (rd_iU (rd_iU (rd_iU (rd_iU (rd_iU K (37 + 8 * d) 3 1) (37 + 8 * d) 4 p1) (37 + 8 * d) 5 p2) (37 + 8 * d) 6 p3) (37 + 8 * d) 7 0) (37 + 8 * d) 8 0) (37 + 8 * d) 9 (-1)) (37 + 8 * d) 10 (-1)) (37 + 8 * d) 11 (-1)) (39 + 8 * d + 2 * 0) 1 0) (40 + 8 * d + 2 * 0) 0 p4) (39 + 8 * d + 2 * 0) 1 (0 + 1)) (39 + 8 * d + 2 * 1) 1 0) d
  refine ⟨K', ?_, fun c hc => ?_, ?_, ?_, ?_, ?_, ?_, ?_, ?_, ?_, ?_, ?_, e3⟩
  · rw [me_ic (show 39 + 8 * d + 2 * 0 ≠ 40 + 8 * d + 2 * 0 by omega), me_ii rfl rfl, e1]
    rfl
  · rw [e2 c (by omega) (by omega)]
    simp (disch := omega) only [me_ic]
  · rw [e2 _ (by omega) (by omega)]; simp (disch := omega) only [me_ii, me_in, me_il, me_li, me_ld, me_ll, me_ln, me_di, me_dl, me_dd, me_dn]
  · rw [e2 _ (by omega) (by omega)]; simp (disch := omega) only [me_ii, me_in, me_il, me_li, me_ld, me_ll, me_ln, me_di, me_dl, me_dd, me_dn]
  · rw [e2 _ (by omega) (by omega)]; simp (disch := omega) only [me_ii, me_in, me_il, me_li, me_ld, me_ll, me_ln, me_di, me_dl, me_dd, me_dn]
  · rw [e2 _ (by omega) (by omega)]; simp (disch := omega) only [me_ii, me_in, me_il, me_li, me_ld, me_ll, me_ln, me_di, me_dl, me_dd, me_dn]
  · rw [e2 _ (by omega) (by omega)]; simp (disch := omega) only [me_ii, me_in, me_il, me_li, me_ld, me_ll, me_ln, me_di, me_dl, me_dd, me_dn]
  · rw [e2 _ (by omega) (by omega)]; simp (disch := omega) only [me_ii, me_in, me_il, me_li, me_ld, me_ll, me_ln, me_di, me_dl, me_dd, me_dn]
  · rw [e2 _ (by omega) (by omega)]; simp (disch := omega) only [me_ii, me_in, me_il, me_li, me_ld, me_ll, me_ln, me_di, me_dl, me_dd, me_dn]
  · rw [e2 _ (by omega) (by omega)]; simp (disch := omega) only [me_ii, me_in, me_il, me_li, me_ld, me_ll, me_ln, me_di, me_dl, me_dd, me_dn]; rfl
  · rw [e2 _ (by omega) (by omega)]; simp (disch := omega) only [me_ii, me_in, me_il, me_li, me_ld, me_ll, me_ln, me_di, me_dl, me_dd, me_dn]
  · rw [e2 _ (by omega) (by omega)]; simp (disch := omega) only [me_ii, me_in, me_il, me_li, me_ld, me_ll, me_ln, me_di, me_dl, me_dd, me_dn]; rfl
theorem sim_create {u : Nat} {K N : rd_M} (h : qR u 10 K N) (hu : u < 400000) (p1 p2 p3 p4 p5 : Int32) : qS Eq (u + 1) K (f_K_create K p1 p2 p3 p4 p5) (f_N_create N p1 p2 p3 p4 p5) := by
  have h' : qR (u + 1) 10 K N := h.up (by omega) (by omega)
  obtain ⟨t, t1, t2, t3⟩ := h.2.1
  unfold f_K_create f_N_create f_D_setGrace
  simp only [f_regb, f_namb, f_rrb, f_inb, f_fail, f_give, fe_bind]
  by_cases h1 : 0 ≤ p1 ∧ p1 ≤ 3
  · by_cases h2 : 0 ≤ p2 ∧ p2 ≤ 9
    · by_cases h3 : 1 ≤ p3 ∧ p3 ≤ 3
      · by_cases h4 : 0 ≤ p4 ∧ p4 ≤ 99
        · obtain ⟨d, hd, rfl⟩ := rg_of (n := 9) (by decide) h2
          have hd : d < 10 := by omega
          obtain ⟨r, hr, rfl⟩ := rg_of (n := 3) (by decide) h1
          have hr : r < 4 := by omega
          obtain ⟨y, hy, rfl⟩ := rg13 h3
          simp only [if_pos h1, if_pos h2, if_pos h3, if_pos h4, ndmb hd, if_pos (ri hd (show 10 < 2 ^ 31 by decide)), ev_c (show d < 2 ^ 31 by omega), fe_k, if_pos in05, cn0]
          rcases thC h.2.2.2.2.1 p5 with ⟨x1, x2, -⟩ | ⟨n, n8, rfl, x1, x2, -, -⟩
          · simp only [x1, x2, fe_bind, fe_bl, if_neg h10]; exact qS_2 h'
          · simp only [x1, x2, fe_bind, fe_br, if_true]
            rcases h.dm hd with ⟨a, b⟩ | ⟨a, ⟨o, o1, o2, o3⟩, -⟩
            · simp only [if_pos a, b, if_neg im1]
              obtain ⟨N1, g1, g2, g3, g4, g5⟩ := ngN N hd
              have hq : qR u d K N1 := (h.ex (e := d)).nD (fun c j ho _ => by
                by_cases e : c = 21
                · subst e
                  rw [g5]
                  exact ⟨g3 j (by unfold qO at ho; omega), rfl⟩
                · rw [g2 c e]; exact ⟨rfl, rfl⟩) ⟨fun j hj => by rw [g2 19 (by decide)]; exact h.2.2.2.2.2.2.2.1.1 j hj, fun j hj => by rw [g2 18 (by decide)]; exact h.2.2.2.2.2.2.2.1.2 j hj⟩
              obtain ⟨ca, cb, c2, c3, c4, c5, c6⟩ := payForB hq hu hr (k := 0) (kk := 0) (y := nI y) (yy := y) rfl (by omega) rfl hy
              rw [cpN (g2 1 (by decide)) (g2 2 (by decide))] at c6
              rcases c6 with ⟨e1, e2⟩ | ⟨e1, K1, e2, e3, e4⟩
              · simp only [e1, e2, fe_bind, fe_bl, if_true]; exact qS_4 h'
              · simp only [e1, e2, fe_bind, fe_br, if_neg h10, g1, payN c2 hr (show (0 : Int32) = nI 0 from rfl) (by omega) hd (show (0 : Int32) = nI 0 from rfl) (by omega)]
                have k0 : (K1 0).1 4 = nI t := by rw [e3 _ (by omega)]; exact t2
                rw [k0]
                obtain ⟨K2, o1, o2, o3, o4, o5, o6, o7, o8, o9, o10, o11, o12, o13⟩ := openK K1 d (nI r) (nI t + nI y * 10) p4 (nI n)
                have k2 : (K2 0).1 4 = nI t := by rw [o2 _ (by omega)]; exact k0
                simp only [o1, fe_bind, k2, em2, em6, ea1, if_pos (ri (show 6 * d < 60 by omega) (show 60 < 2 ^ 31 by decide)), if_pos (ri (show 2 * d < 20 by omega) (show 20 < 2 ^ 31 by decide)), if_pos (ri (show 2 * d + 1 < 20 by omega) (show 20 < 2 ^ 31 by decide)), ev_c (show 6 * d < 2 ^ 31 by omega), ev_c (show 2 * d < 2 ^ 31 by omega), ev_c (show 2 * d + 1 < 2 ^ 31 by omega)]
                have hK3 : qR (u + 1) d (rd_iU (rd_dU K2 (43 + 8 * d) 0 ca) (44 + 8 * d) 0 (nI t + 3)) (rd_lU (rd_lU N1 2 r ((N1 2).2.1 r - cb)) 3 (4 * r + 0) ((N1 3).2.1 (4 * r + 0) + cb)) := by
                  refine e4.kD hd (fun c hc => by rw [me_ic (by omega), me_dc (by omega)]; exact o2 c hc) (fun w hw => ?_)
                  rw [me_ic (by omega), me_dc (by omega)]
                  rcases (show w = 0 ∨ w = 1 by omega) with rfl | rfl
                  · exact ⟨1, by omega, o10⟩
                  · exact ⟨0, by omega, o12⟩
                refine qS_0 ?_ ((((((((((((hK3.nl (by unfold qO; omega)).nw (by unfold qO; omega) (fun z => absurd z (by decide))).nw (by unfold qO; omega) (fun z => absurd z (by decide))).nw (by unfold qO; omega) (fun z => absurd z (by decide))).nw (by unfold qO; omega) (fun z => absurd z (by decide))).nw (by unfold qO; omega) (fun z => absurd z (by decide))).nw (by unfold qO; omega) (fun z => absurd z (by decide))).nw (by unfold qO; omega) (fun z => absurd z (by decide))).nw (by unfold qO; omega) (fun z => absurd z (by decide)) (fun _ => ⟨n, n8, rfl⟩)).nw (by unfold qO; omega) (fun _ => ⟨1, by omega, rfl⟩)).nw (by unfold qO; omega) (fun _ => ⟨0, by omega, rfl⟩)).cl (Or.inr ⟨?_, ⟨r, hr, ?_, ?_⟩, ?_, ?_, ?_, ?_, Or.inl ?_, Or.inl ⟨?_, ?_⟩, fun w hw => ?_, fun k hk => ?_⟩))
                · simp (disch := omega) only [me_ii, me_in, me_il, me_li, me_ld, me_ll, me_ln, me_di, me_dl, me_dd, me_dn, o5, g2]; rw [t3, Int32.mul_comm]
                · simp (disch := omega) only [me_ii, me_in, me_il, me_li, me_ld, me_ll, me_ln, me_di, me_dl, me_dd, me_dn]; exact o3
                · simp (disch := omega) only [me_ii, me_in, me_il, me_li, me_ld, me_ll, me_ln, me_di, me_dl, me_dd, me_dn]; exact o4
                · simp (disch := omega) only [me_ii, me_in, me_il, me_li, me_ld, me_ll, me_ln, me_di, me_dl, me_dd, me_dn]
                · simp (disch := omega) only [me_ii, me_in, me_il, me_li, me_ld, me_ll, me_ln, me_di, me_dl, me_dd, me_dn, o5, g2]; rw [t3, Int32.mul_comm]
                · simp (disch := omega) only [me_ii, me_in, me_il, me_li, me_ld, me_ll, me_ln, me_di, me_dl, me_dd, me_dn]; exact o6
                · simp (disch := omega) only [me_ii, me_in, me_il, me_li, me_ld, me_ll, me_ln, me_di, me_dl, me_dd, me_dn]; exact o7
                · simp (disch := omega) only [me_ii, me_in, me_il, me_li, me_ld, me_ll, me_ln, me_di, me_dl, me_dd, me_dn]; exact o8
                · simp (disch := omega) only [me_ii, me_in, me_il, me_li, me_ld, me_ll, me_ln, me_di, me_dl, me_dd, me_dn]
                · simp (disch := omega) only [me_ii, me_in, me_il, me_li, me_ld, me_ll, me_ln, me_di, me_dl, me_dd, me_dn]; exact o9
                · simp (disch := omega) only [me_ii, me_in, me_il, me_li, me_ld, me_ll, me_ln, me_di, me_dl, me_dd, me_dn]
                · rcases (show w = 0 ∨ w = 1 by omega) with rfl | rfl
                  · refine ⟨1, by omega, ?_, ?_, fun i hi => ?_⟩
                    · simp (disch := omega) only [me_ii, me_in, me_il, me_li, me_ld, me_ll, me_ln, me_di, me_dl, me_dd, me_dn]; exact o10
                    · simp (disch := omega) only [me_ii, me_in, me_il, me_li, me_ld, me_ll, me_ln, me_di, me_dl, me_dd, me_dn]
                    · obtain rfl : i = 0 := by omega
                      simp (disch := omega) only [me_ii, me_in, me_il, me_li, me_ld, me_ll, me_ln, me_di, me_dl, me_dd, me_dn]; exact o11
                  · refine ⟨0, by omega, ?_, ?_, fun i hi => absurd hi (by omega)⟩
                    · simp (disch := omega) only [me_ii, me_in, me_il, me_li, me_ld, me_ll, me_ln, me_di, me_dl, me_dd, me_dn]; exact o12
                    · simp (disch := omega) only [me_ii, me_in, me_il, me_li, me_ld, me_ll, me_ln, me_di, me_dl, me_dd, me_dn]
                · by_cases ek : k = 0
                  · subst ek
                    unfold qG
                    simp (disch := omega) only [me_ii, me_in, me_il, me_li, me_ld, me_ll, me_ln, me_di, me_dl, me_dd, me_dn, g2]
                    exact ⟨by rw [t3]; rfl, Or.inr ⟨by decide, c3, c4, c5⟩⟩
                  · unfold qG
                    simp (disch := omega) only [me_ii, me_in, me_il, me_li, me_ld, me_ll, me_ln, me_di, me_dl, me_dd, me_dn]
                    exact ⟨by rw [o13 k hk, g4 k hk], Or.inl (g4 k hk)⟩
            · simp only [a, o3, if_neg h10, if_pos (nI_pos' (show o < 2 ^ 31 by omega))]; exact qS_4 h'
        · simp only [if_pos h1, if_pos h2, if_pos h3, if_neg h4]; exact qS_1 h'
      · simp only [if_pos h1, if_pos h2, if_neg h3]; exact qS_1 h'
    · simp only [if_pos h1, if_neg h2]; exact qS_1 h'
  · simp only [if_neg h1]; exact qS_1 h'
/-! rows -/
theorem qR.dw {u e d w : Nat} {K K' N N' : rd_M} (h : qR u e K N) (hd : d < 10) (hw : w < 2) (hK : ∀ c, c ≠ 39 + 8 * d + 2 * w → c ≠ 40 + 8 * d + 2 * w → K' c = K c) (hN : ∀ c, c ≠ 18 → c ≠ 19 → N' c = N c) (h19 : ∀ j, j ≠ 2 * d + w → (N' 19).1 j = (N 19).1 j) (h18 : ∀ j, j < 6 * d + 3 * w ∨ 6 * d + 3 * w + 3 ≤ j → (N' 18).1 j = (N 18).1 j) (hl : (N' 18).2 = (N 18).2 ∧ (N' 19).2 = (N 19).2) (hs : ∃ s, s ≤ 3 ∧ (K' (39 + 8 * d + 2 * w)).1 1 = nI s) (hs2 : ∃ s, s ≤ 3 ∧ (N' 19).1 (2 * d + w) = nI s) (hv : ∀ i, i < 3 → ∃ m, m < 8 ∧ (N' 18).1 (6 * d + 3 * w + i) = nI m) (hq : d ≠ e → qD d K N → (K (37 + 8 * d)).1 3 = 1 → qW d w K' N') : qR u e K' N' := by
  obtain ⟨h0, ⟨t, t1, t2, t3⟩, h2, h3, h4, h5, h6, h7, h8⟩ := h
  have e0 := hN 0 (by omega) (by omega)
  refine ⟨h0, ⟨t, t1, by rw [hK 0 (by omega) (by omega)]; exact t2, by rw [e0]; exact t3⟩, fun k hk => by rw [hK 1 (by omega) (by omega), hN 1 (by omega) (by omega)]; exact h2 k hk, fun r hr => (h3 r hr).cg (Nat.le_refl _) (hK _ (by omega) (by omega)) (hK _ (by omega) (by omega)) (hK _ (by omega) (by omega)) (by rw [hN 2 (by omega) (by omega)]) (fun k _ => by rw [hN 3 (by omega) (by omega)]) (by rw [hN 4 (by omega) (by omega)]) (fun i _ => by rw [hN 5 (by omega) (by omega)]), h4.cg (fun c _ _ => hK c (by omega) (by omega)) (by rw [e0]) (fun i _ => by rw [hN 6 (by omega) (by omega)]), h5.cg (fun c _ _ => hK c (by omega) (by omega)) (by rw [e0]) (fun i _ => ⟨by rw [hN 7 (by omega) (by omega)], by rw [hN 8 (by omega) (by omega)], by rw [hN 9 (by omega) (by omega)]⟩), fun d' hd' w' hw' => ?_, ⟨fun j hj => ?_, fun j hj => ?_⟩, fun d' hd' hne => ?_⟩
  · by_cases e1 : d' = d ∧ w' = w
    · obtain ⟨rfl, rfl⟩ := e1; exact hs
    · rw [hK _ (by omega) (by omega)]; exact h6 d' hd' w' hw'
  · by_cases e1 : j = 2 * d + w
    · rw [e1]; exact hs2
    · rw [h19 j e1]; exact h7.1 j hj
  · by_cases e1 : j < 6 * d + 3 * w ∨ 6 * d + 3 * w + 3 ≤ j
    · rw [h18 j e1]; exact h7.2 j hj
    · have e2 := hv (j - (6 * d + 3 * w)) (by omega)
      rw [show 6 * d + 3 * w + (j - (6 * d + 3 * w)) = j by omega] at e2
      exact e2
  · by_cases e1 : d' = d
    · subst e1
      have k0 : K' (37 + 8 * d') = K (37 + 8 * d') := hK _ (by omega) (by omega)
      have hq := hq hne (h8 d' hd' hne)
      rcases h8 d' hd' hne with ⟨a, b⟩ | ⟨a, ⟨o, o1, o2, o3⟩, b1, b2, b3, b4, b5, b6, b7, b8⟩
      · exact Or.inl ⟨by rw [k0]; exact a, by rw [hN 10 (by omega) (by omega)]; exact b⟩
      · refine Or.inr ⟨by rw [k0]; exact a, ⟨o, o1, by rw [k0]; exact o2, by rw [hN 10 (by omega) (by omega)]; exact o3⟩, by rw [k0, hN 11 (by omega) (by omega)]; exact b1, by rw [k0, hN 12 (by omega) (by omega)]; exact b2, by rw [k0, hN 13 (by omega) (by omega)]; exact b3, by rw [k0, hN 14 (by omega) (by omega)]; exact b4, by rw [k0, hN 14 (by omega) (by omega), hN 15 (by omega) (by omega)]; exact b5, by rw [k0, hN 16 (by omega) (by omega), hN 17 (by omega) (by omega)]; exact b6, fun w' hw' => ?_, fun k hk => ?_⟩
        · by_cases e2 : w' = w
          · rw [e2]; exact hq a
          · exact (b7 w' hw').cg (by rw [hK _ (by omega) (by omega)]) (fun i _ => by rw [hK _ (by omega) (by omega)]) (h19 _ (by omega)) (fun i _ => h18 _ (by omega))
        · exact (b8 k hk).cg (by rw [hK _ (by omega) (by omega)]) (by rw [hK _ (by omega) (by omega)]) (by rw [hN 21 (by omega) (by omega)]) (by rw [hN 20 (by omega) (by omega)])
    · refine (h8 d' hd' hne).cg (fun c _ _ => hK c (by omega) (by omega)) (fun c j ho => ?_)
      by_cases c18 : c = 18
      · subst c18
        exact ⟨h18 j (by unfold qO at ho; omega), by rw [hl.1]⟩
      · by_cases c19 : c = 19
        · subst c19
          exact ⟨h19 j (by unfold qO at ho; omega), by rw [hl.2]⟩
        · rw [hN c c18 c19]; exact ⟨rfl, rfl⟩
theorem addB {u d w s : Nat} {K N : rd_M} (h : qR u 10 K N) (hd : d < 10) (hw : w < 2) (hs : s < 3) (hK : (K (39 + 8 * d + 2 * w)).1 1 = nI s) (hN : (N 19).1 (2 * d + w) = nI s) (hW : qW d w K N) (x : Int32) (hx : ∃ m, m < 8 ∧ x = nI m) : qR u 10 (rd_iU (rd_iU K (40 + 8 * d + 2 * w) s x) (39 + 8 * d + 2 * w) 1 (nI (s + 1))) (rd_iU (rd_iU N 18 (6 * d + 3 * w + s) x) 19 (2 * d + w) (nI (s + 1))) := by
  refine h.dw hd hw (fun c h1 h2 => by rw [me_ic h1, me_ic h2]) (fun c h1 h2 => by rw [me_ic h2, me_ic h1]) (fun j hj => by rw [me_in (by omega), me_ic (by decide)]) (fun j hj => by rw [me_ic (by decide), me_in (by omega)]) ⟨by rw [me_ic (by decide), me_il], by rw [me_il, me_ic (by decide)]⟩ ⟨s + 1, by omega, me_ii rfl rfl⟩ ⟨s + 1, by omega, me_ii rfl rfl⟩ (fun i hi => ?_) (fun _ _ _ => ⟨s + 1, by omega, me_ii rfl rfl, me_ii rfl rfl, fun i hi => ?_⟩)
  · rw [me_ic (show 18 ≠ 19 by decide)]
    by_cases e1 : i = s
    · rw [me_ii rfl (by omega)]; exact hx
    · rw [me_in (by omega)]; exact h.2.2.2.2.2.2.2.1.2 _ (by omega)
  obtain ⟨s0, s1, s2, s3, s4⟩ := hW
  obtain rfl : s0 = s := by rw [hK, eII (by omega) (by omega)] at s2; exact s2.symm
  rw [me_ic (show 40 + 8 * d + 2 * w ≠ 39 + 8 * d + 2 * w by omega), me_ic (show 18 ≠ 19 by decide)]
  by_cases e1 : i = s0
  · subst e1
    rw [me_ii rfl rfl, me_ii rfl rfl]
  · rw [me_in (by omega), me_in (by omega)]
    exact s4 i (by omega)
/-- the same number taken off on both sides -/
theorem takeB {u e d w s p : Nat} {W : Int32} {K N : rd_M} (h : qR u e K N) (hW9 : W = nI w) (hd : d < 10) (hw : w < 2) (hs : s + 1 ≤ 3) (hK : (K (39 + 8 * d + 2 * w)).1 1 = nI (s + 1)) (hN : (N 19).1 (2 * d + w) = nI (s + 1)) (hp : p < s + 1) {x : Int32} (hf : f_R_placeOf K d w x = some (nI p)) (hW : d ≠ e → qW d w K N) : ∃ K' N', f_R_takeOff K d w x = some K' ∧ f_N_takeOff N (nI d) W (nI p) = some N' ∧ qR u e K' N' ∧ (K' (39 + 8 * d + 2 * w)).1 1 = nI s ∧ (N' 19).1 (2 * d + w) = nI s ∧ (∀ c, c ≠ 39 + 8 * d + 2 * w → c ≠ 40 + 8 * d + 2 * w → K' c = K c) ∧ ∀ c, c ≠ 18 → c ≠ 19 → N' c = N c := by
  obtain ⟨K', k1, k2, k3, k4⟩ := tkK hs hK hp hf
  obtain ⟨N', n1, n2, n3, n4, n5, n6, n8⟩ := tkN hW9 hd hw hs hN hp
  have n7 : (N' 19).1 (2 * d + w) = nI s := by rw [n3, me_ii rfl rfl]
  refine ⟨K', N', k1, n1, h.dw hd hw k2 n2 (fun j hj => by rw [n3, me_in (by omega)]) n5 ⟨n4, by rw [n3, me_il]⟩ ⟨s, by omega, k3⟩ ⟨s, by omega, n7⟩ (fun i hi => by obtain ⟨j, j1, j2⟩ := n8 i hi; rw [j2]; exact h.2.2.2.2.2.2.2.1.2 _ (by omega)) (fun hne _ _ => ?_), k3, n7, k2, n2⟩
  obtain ⟨s0, s1, s2, s3, s4⟩ := hW hne
  obtain rfl : s0 = s + 1 := by rw [hK, eII (by omega) (by omega)] at s2; exact s2.symm
  refine ⟨s, by omega, k3, n7, fun i hi => ?_⟩
  rw [k4 i hi, n6 i hi]
  by_cases e1 : i < p
  · rw [if_pos e1]; exact s4 i (by omega)
  · rw [if_neg e1]; exact s4 (i + 1) (by omega)
