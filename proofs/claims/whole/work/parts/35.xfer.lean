/-! transfers -/
theorem hostSet {u e c i w m : Nat} {K N : rd_M} (h : qR u e K N) (hw : w < 4) (hN : (N 0).1 9 = nI c) (hc : c ≤ 8) (hi : i < c) (hm : m < 4) (h7 : (N 7).1 i = nI m) : qR u e (rd_iU K (18 + 10 * 1 + i) 1 (nI w)) (rd_iU N 7 i (nI w)) := by
  obtain ⟨c0, d1, d2, d3, d4⟩ := h.2.2.2.2.2.1
  obtain rfl : c0 = c := by rw [hN, eII (by omega) (by omega)] at d3; exact d3.symm
  refine h.ho (fun x hx => me_ic (by omega)) (fun x _ h7 _ _ => me_ic h7) (by rw [me_ic (by decide)]) (by rw [me_ic (by decide)]) ⟨c0, d1, by rw [me_ic (by omega)]; exact d2, by rw [me_ic (by decide)]; exact d3, fun j hj => ?_⟩
  obtain ⟨q1, q2⟩ := d4 j hj
  by_cases e1 : j = i
  · subst e1
    rcases q1 with ⟨a, b⟩ | ⟨a, -⟩
    · rw [h7] at b
      have := em1 (n := m) (by omega)
      rw [b] at this
      exact absurd rfl (this ▸ not_false)
    · refine ⟨Or.inr ⟨?_, ?_, w, hw, me_ii rfl rfl⟩, fun _ => ?_⟩
      · simp (disch := omega) only [me_ii, me_in, me_il, me_li, me_ld, me_ll, me_ln, me_di, me_dl, me_dd, me_dn]; exact a
      · simp (disch := omega) only [me_ii, me_in, me_il, me_li, me_ld, me_ll, me_ln, me_di, me_dl, me_dd, me_dn]
      · simp (disch := omega) only [me_ii, me_in, me_il, me_li, me_ld, me_ll, me_ln, me_di, me_dl, me_dd, me_dn]; exact q2 a
  · rw [me_ic (show 18 + 10 * 1 + j ≠ 18 + 10 * 1 + i by omega)]
    simp (disch := omega) only [me_ii, me_in, me_il, me_li, me_ld, me_ll, me_ln, me_di, me_dl, me_dd, me_dn]
    exact ⟨q1, q2⟩
theorem handB {u d w : Nat} {K N : rd_M} {q : Int32} {Kf : Int32 → rd_M → Option rd_M} (h : qR u 10 K N) (hw : w < 4) : ∃ (K' N' : rd_M) (z : Int32), f_S_handOverUnder K 1 (nI d) (nI w) = some K' ∧ rd_it (fun _ _ => none) (lb_N_handOver_56 q (nI w) (nI d) Kf) 64 0 N = Kf z N' ∧ qR u 10 K' N' ∧ (∀ x, x < 26 ∨ 35 < x → K' x = K x) ∧ ∀ x, x ≠ 7 → N' x = N x := by
  obtain ⟨c, f0, c1, c2, c3, -⟩ := hostF h.2.2.2.2.2.1
  unfold f_S_handOverUnder
  obtain ⟨K', N', ⟨p1, p2, p3, p4, p5⟩, e1, e2⟩ := lp_two (z := fun _ _ => none) (z2 := fun _ _ => none) (lb := lb_S_handOverUnder_2 1 (nI d) (nI w) (fun _ w => some w)) (lb2 := lb_N_handOver_56 q (nI w) (nI d) Kf) (n := c) (fun _ a b => qR u 10 a b ∧ (b 0).1 9 = nI c ∧ (a (16 + 10 * 1)).1 1 = nI c ∧ (∀ x, x < 26 ∨ 35 < x → a x = K x) ∧ ∀ x, x ≠ 7 → b x = N x) (fun i hi a b hP => by
      obtain ⟨p1, p2, p3, p4, p5⟩ := hP
      obtain ⟨c', f, d1, d2, d3, d4, d5, d6⟩ := hostF p1.2.2.2.2.2.1
      obtain rfl : c' = c := by rw [p2, eII (by omega) (by omega)] at d2; exact d2.symm
      have hk : ∀ rec, lb_S_handOverUnder_2 1 (nI d) (nI w) (fun _ w => some w) rec (nI i) a = if f i = true ∧ (b 9).1 i = nI d then rec (nI (i + 1)) (rd_iU a (18 + 10 * 1 + i) 1 (nI w)) else rec (nI (i + 1)) a := fun rec => by
        unfold lb_S_handOverUnder_2
        rw [p3, if_neg (nI_ge hi (by omega)), liesB d1 d4 d5 d6 (show i < 8 by omega), fe_bind, ea1, if_pos (ri (show i < 8 by omega) (by decide)), fe_k, ev_c (by omega)]
        by_cases e : f i = true ∧ (b 9).1 i = nI d
        · rw [if_pos e, if_pos e, if_neg h10]
        · rw [if_neg e, if_neg e, if_pos rfl]
      have hn : ∀ rec, lb_N_handOver_56 q (nI w) (nI d) Kf rec (nI i) b = if (b 7).1 i < 0 then rec (nI (i + 1)) b else if (b 9).1 i = nI d then rec (nI (i + 1)) (rd_iU b 7 i (nI w)) else rec (nI (i + 1)) b := fun rec => by
        unfold lb_N_handOver_56
        rw [p2, if_neg (nI_ge hi (by omega)), if_pos (ri (show i < 8 by omega) (by decide)), if_pos (ri (show i < 8 by omega) (by decide)), if_pos (ri (show i < 8 by omega) (by decide)), fe_k, ev_c (by omega), ea1]
      rcases d6 i hi with ⟨x, y⟩ | ⟨x, ⟨m, m1, m2⟩, y, -⟩
      · exact ⟨a, b, ⟨p1, p2, p3, p4, p5⟩, fun rec => by rw [hk, if_neg (fun z => by rw [x] at z; cases z.1)], fun rec => by rw [hn, y, if_pos (by decide)]⟩
      · by_cases e : (b 9).1 i = nI d
        · refine ⟨_, _, ⟨hostSet p1 hw p2 d1 hi m1 m2, ?_, ?_, fun z hz => ?_, fun z hz => ?_⟩, fun rec => by rw [hk, if_pos ⟨x, e⟩], fun rec => by rw [hn, m2, if_neg (nI_pos (by omega)), if_pos e]⟩
          · rw [me_ic (by decide)]; exact p2
          · rw [me_ic (by omega)]; exact p3
          · rw [me_ic (by omega)]; exact p4 z hz
          · rw [me_ic hz]; exact p5 z hz
        · exact ⟨a, b, ⟨p1, p2, p3, p4, p5⟩, fun rec => by rw [hk, if_neg (fun z => e z.2)], fun rec => by rw [hn, m2, if_neg (nI_pos (by omega)), if_neg e]⟩) c 0 64 64 K N (by omega) ⟨h, c2, c3, fun _ _ => rfl, fun _ _ => rfl⟩ (by omega) (by omega)
  refine ⟨K', N', nI c, e1.trans ?_, e2.trans ?_, p1, p4, p5⟩
  · unfold lb_S_handOverUnder_2
    rw [p3, if_pos (nI_le (Nat.le_refl _) (by omega))]
  · unfold lb_N_handOver_56
    rw [p2, if_pos (nI_le (Nat.le_refl _) (by omega))]
theorem endB {u d w : Nat} {K N : rd_M} (h : qR u 10 K N) (hd : d < 10) (hw : w < 4) (a : (K (37 + 8 * d)).1 3 = 1) (k10 : (K (37 + 8 * d)).1 10 = nI w) (n16 : (N 16).1 d = nI w) : ∃ K' N', f_K_endTransfer K (nI d) = some K' ∧ f_N_endTransfer N (nI d) = some N' ∧ qR u 10 K' N' ∧ (K' (37 + 8 * d)).1 3 = 1 := by
  have hq : qR u d (rd_iU K (37 + 8 * d) 10 (-1)) N := (h.ex (e := d)).kw hd (by omega) (by omega) (fun z => absurd z (by omega))
  obtain ⟨K', N', d1, d2, d3, d4, d5⟩ := tellB hq hw 3 (nI d)
  refine ⟨K', rd_iU N' 16 d (-1), ?_, ?_, (d3.nw (by unfold qO; omega) (fun z => absurd z (by decide))).cl ?_, ?_⟩
  · unfold f_K_endTransfer
    simp only [if_pos (ri hd (show 10 < 2 ^ 31 by decide)), ev_c (show d < 2 ^ 31 by omega), fe_k, k10, if_pos (ri hw (show 4 < 2 ^ 31 by decide)), ev_c (show w < 2 ^ 31 by omega), d1, fe_bind]
  · unfold f_N_endTransfer
    simp only [if_pos (ri hd (show 10 < 2 ^ 31 by decide)), ev_c (show d < 2 ^ 31 by omega), fe_k, n16, d2, fe_bind]
  · rcases h.dm hd with ⟨x, -⟩ | ⟨-, ⟨o, o1, o2, o3⟩, b1, b2, b3, b4, b5, b6, b7, b8⟩
    · rw [a] at x; exact absurd x (by decide)
    · refine Or.inr ⟨?_, ⟨o, o1, ?_, ?_⟩, ?_, ?_, ?_, ?_, ?_, Or.inl ⟨?_, ?_⟩, fun w hw => ?_, fun k hk => ?_⟩
      · simp (disch := omega) only [me_ii, me_in, me_il, me_li, me_ld, me_ll, me_ln, me_di, me_dl, me_dd, me_dn, d4]; exact a
      · simp (disch := omega) only [me_ii, me_in, me_il, me_li, me_ld, me_ll, me_ln, me_di, me_dl, me_dd, me_dn, d4]; exact o2
      · simp (disch := omega) only [me_ii, me_in, me_il, me_li, me_ld, me_ll, me_ln, me_di, me_dl, me_dd, me_dn, d5]; exact o3
      · simp (disch := omega) only [me_ii, me_in, me_il, me_li, me_ld, me_ll, me_ln, me_di, me_dl, me_dd, me_dn, d4, d5]; exact b1
      · simp (disch := omega) only [me_ii, me_in, me_il, me_li, me_ld, me_ll, me_ln, me_di, me_dl, me_dd, me_dn, d4, d5]; exact b2
      · simp (disch := omega) only [me_ii, me_in, me_il, me_li, me_ld, me_ll, me_ln, me_di, me_dl, me_dd, me_dn, d4, d5]; exact b3
      · simp (disch := omega) only [me_ii, me_in, me_il, me_li, me_ld, me_ll, me_ln, me_di, me_dl, me_dd, me_dn, d4, d5]; exact b4
      · simp (disch := omega) only [me_ii, me_in, me_il, me_li, me_ld, me_ll, me_ln, me_di, me_dl, me_dd, me_dn, d4, d5]; exact b5
      · simp (disch := omega) only [me_ii, me_in, me_il, me_li, me_ld, me_ll, me_ln, me_di, me_dl, me_dd, me_dn, d4]
      · simp (disch := omega) only [me_ii, me_in, me_il, me_li, me_ld, me_ll, me_ln, me_di, me_dl, me_dd, me_dn]
      · exact (b7 w hw).cg (by simp (disch := omega) only [me_ii, me_in, me_il, me_li, me_ld, me_ll, me_ln, me_di, me_dl, me_dd, me_dn, d4]) (fun i _ => by simp (disch := omega) only [me_ii, me_in, me_il, me_li, me_ld, me_ll, me_ln, me_di, me_dl, me_dd, me_dn, d4]) (by simp (disch := omega) only [me_ii, me_in, me_il, me_li, me_ld, me_ll, me_ln, me_di, me_dl, me_dd, me_dn, d5]) (fun i _ => by simp (disch := omega) only [me_ii, me_in, me_il, me_li, me_ld, me_ll, me_ln, me_di, me_dl, me_dd, me_dn, d5])
      · exact (b8 k hk).cg (by simp (disch := omega) only [me_ii, me_in, me_il, me_li, me_ld, me_ll, me_ln, me_di, me_dl, me_dd, me_dn, d4]) (by simp (disch := omega) only [me_ii, me_in, me_il, me_li, me_ld, me_ll, me_ln, me_di, me_dl, me_dd, me_dn, d4]) (by simp (disch := omega) only [me_ii, me_in, me_il, me_li, me_ld, me_ll, me_ln, me_di, me_dl, me_dd, me_dn, d5]) (by simp (disch := omega) only [me_ii, me_in, me_il, me_li, me_ld, me_ll, me_ln, me_di, me_dl, me_dd, me_dn, d5])
  · rw [d4 _ (by omega), me_in (by omega)]; exact a
theorem finB {u d w : Nat} {K N : rd_M} (h : qR u 10 K N) (hu : u < 400000) (hd : d < 10) (hw : w < 4) (a : (K (37 + 8 * d)).1 3 = 1) (k10 : (K (37 + 8 * d)).1 10 = nI w) (n16 : (N 16).1 d = nI w) : ∃ K' N', f_K_finishTransfer K (nI d) = some K' ∧ f_N_handOver N (nI d) = some N' ∧ qR (u + 1) 10 K' N' ∧ (K' (37 + 8 * d)).1 3 = 1 := by
  rcases h.dm hd with ⟨x, -⟩ | ⟨-, ⟨o, o1, o2, o3⟩, b1, b2, b3, b4, b5, b6, b7, b8⟩
  · rw [a] at x; exact absurd x (by decide)
  obtain ⟨t, t1, t2, t3⟩ := h.2.1
  obtain ⟨N1, g1, g2, g3, g4, g5⟩ := ngN N hd
  have hq : qR u d K N1 := (h.ex (e := d)).nD (fun c j ho _ => by
    by_cases e : c = 21
    · subst e
      rw [g5]
      exact ⟨g3 j (by unfold qO at ho; omega), rfl⟩
    · rw [g2 c e]; exact ⟨rfl, rfl⟩) ⟨fun j hj => by rw [g2 19 (by decide)]; exact h.2.2.2.2.2.2.2.1.1 j hj, fun j hj => by rw [g2 18 (by decide)]; exact h.2.2.2.2.2.2.2.1.2 j hj⟩
  obtain ⟨ca, cb, c1, c2, c3, c4, c5⟩ := costB hq hw (k := 2) (kk := 2) (y := 1) (yy := 1) rfl (by omega) rfl (by omega)
  obtain ⟨K1, s1, e3, e4⟩ := spendB hq hu hw (kk := 2) (by omega) c3 c4 c5 (k := 2) rfl
  obtain ⟨K2, q1, q2, q3⟩ := cgK (rd_iU (rd_iU (rd_iU K1 (37 + 8 * d) 10 (-1)) (37 + 8 * d) 4 (nI w)) (37 + 8 * d) 5 (((rd_iU (rd_iU K1 (37 + 8 * d) 10 (-1)) (37 + 8 * d) 4 (nI w)) (37 + 8 * d)).1 5 + 10)) d
  have k20 : (K2 0).1 4 = nI t := by rw [q2 _ (by omega) (by omega)]; simp (disch := omega) only [me_ii, me_in, me_il, me_li, me_ld, me_ll, me_ln, me_di, me_dl, me_dd, me_dn, e3]; exact t2
  have hq2 : qR (u + 1) 10 (rd_iU (rd_dU K2 (43 + 8 * d) 2 ca) (44 + 8 * d) 2 (nI t + 3)) (rd_iU (rd_iU (rd_iU (rd_iU (rd_lU (rd_lU (rd_lU N1 2 w ((N1 2).2.1 w - cb)) 3 (4 * w + 2) ((N1 3).2.1 (4 * w + 2) + cb)) 20 (5 * d + 2) cb) 21 (5 * d + 2) (nI t + 3)) 11 d ((N 11).1 d + 10)) 10 d (nI w)) 16 d (-1)) := by
    have hK3 : qR (u + 1) d (rd_iU (rd_dU K2 (43 + 8 * d) 2 ca) (44 + 8 * d) 2 (nI t + 3)) (rd_lU (rd_lU N1 2 w ((N1 2).2.1 w - cb)) 3 (4 * w + 2) ((N1 3).2.1 (4 * w + 2) + cb)) := by
      refine e4.kD hd (fun c hc => by rw [me_ic (by omega), me_dc (by omega), q2 _ (by omega) (by omega)]; simp (disch := omega) only [me_ic]) (fun x hx => ?_)
      rw [me_ic (by omega), me_dc (by omega), q2 _ (by omega) (by omega)]
      simp (disch := omega) only [me_ii, me_in, me_il, me_li, me_ld, me_ll, me_ln, me_di, me_dl, me_dd, me_dn, e3]
      exact h.2.2.2.2.2.2.1 d hd x hx
    refine (((((hK3.nl (by unfold qO; omega)).nw (by unfold qO; omega) (fun z => absurd z (by decide))).nw (by unfold qO; omega) (fun z => absurd z (by decide))).nw (by unfold qO; omega) (fun z => absurd z (by decide))).nw (by unfold qO; omega) (fun z => absurd z (by decide))).cl (Or.inr ⟨?_, ⟨w, hw, ?_, ?_⟩, ?_, ?_, ?_, ?_, ?_, Or.inl ⟨?_, ?_⟩, fun x hx => ?_, fun k hk => ?_⟩)
    · simp (disch := omega) only [me_ii, me_in, me_il, me_li, me_ld, me_ll, me_ln, me_di, me_dl, me_dd, me_dn, q2, e3]; exact a
    · simp (disch := omega) only [me_ii, me_in, me_il, me_li, me_ld, me_ll, me_ln, me_di, me_dl, me_dd, me_dn, q2, e3]
    · simp (disch := omega) only [me_ii, me_in, me_il, me_li, me_ld, me_ll, me_ln, me_di, me_dl, me_dd, me_dn]
    · simp (disch := omega) only [me_ii, me_in, me_il, me_li, me_ld, me_ll, me_ln, me_di, me_dl, me_dd, me_dn, q2, e3]; rw [b1]
    · simp (disch := omega) only [me_ii, me_in, me_il, me_li, me_ld, me_ll, me_ln, me_di, me_dl, me_dd, me_dn, q2, e3, g2]; exact b2
    · simp (disch := omega) only [me_ii, me_in, me_il, me_li, me_ld, me_ll, me_ln, me_di, me_dl, me_dd, me_dn, q2, e3, g2]; exact b3
    · simp (disch := omega) only [me_ii, me_in, me_il, me_li, me_ld, me_ll, me_ln, me_di, me_dl, me_dd, me_dn, q2, e3, g2]; exact b4
    · simp (disch := omega) only [me_ii, me_in, me_il, me_li, me_ld, me_ll, me_ln, me_di, me_dl, me_dd, me_dn, q2, e3, g2]; exact b5
    · simp (disch := omega) only [me_ii, me_in, me_il, me_li, me_ld, me_ll, me_ln, me_di, me_dl, me_dd, me_dn, q2, e3]
    · simp (disch := omega) only [me_ii, me_in, me_il, me_li, me_ld, me_ll, me_ln, me_di, me_dl, me_dd, me_dn]
    · exact (b7 x hx).cg (by simp (disch := omega) only [me_ii, me_in, me_il, me_li, me_ld, me_ll, me_ln, me_di, me_dl, me_dd, me_dn, q2, e3]) (fun i _ => by simp (disch := omega) only [me_ii, me_in, me_il, me_li, me_ld, me_ll, me_ln, me_di, me_dl, me_dd, me_dn, q2, e3]) (by simp (disch := omega) only [me_ii, me_in, me_il, me_li, me_ld, me_ll, me_ln, me_di, me_dl, me_dd, me_dn, g2]) (fun i _ => by simp (disch := omega) only [me_ii, me_in, me_il, me_li, me_ld, me_ll, me_ln, me_di, me_dl, me_dd, me_dn, g2])
    · by_cases ek : k = 2
      · subst ek
        unfold qG
        simp (disch := omega) only [me_ii, me_in, me_il, me_li, me_ld, me_ll, me_ln, me_di, me_dl, me_dd, me_dn]
        exact ⟨by first | rfl | trivial, Or.inr ⟨by decide, c3, c4, c5⟩⟩
      · unfold qG
        simp (disch := omega) only [me_ii, me_in, me_il, me_li, me_ld, me_ll, me_ln, me_di, me_dl, me_dd, me_dn]
        exact ⟨by rw [q3 k hk, g4 k hk], Or.inl (g4 k hk)⟩
  obtain ⟨K4, N4, z, r1, r2, r3, r4, r5⟩ := handB (d := d) (w := w) (q := nI o) (Kf := fun w56_4 w56_M => (f_N_tell w56_M (nI o) 2 (nI d)).bind fun r19 => (f_N_tell r19 (nI w) 2 (nI d)).bind fun r20 => some r20) hq2 hw
  obtain ⟨K5, N5, v1, v2, v3, v4, v5⟩ := tellB r3 o1 2 (nI d)
  obtain ⟨K6, N6, x1, x2, x3, x4, x5⟩ := tellB v3 hw 2 (nI d)
  refine ⟨K6, N6, ?_, ?_, x3, ?_⟩
  · unfold f_K_finishTransfer f_D_setGrace
    simp only [if_pos (ri hd (show 10 < 2 ^ 31 by decide)), ev_c (show d < 2 ^ 31 by omega), k10, o2, if_pos (ri hw (show 4 < 2 ^ 31 by decide)), if_pos (ri o1 (show 4 < 2 ^ 31 by decide)), ev_c (show w < 2 ^ 31 by omega), ev_c (show o < 2 ^ 31 by omega), if_pos in25, cn2]
    rw [c1, fe_bind, s1, fe_bind, fe_k, fe_k, fe_k, q1, fe_bind, fe_k, fe_k, fe_bind, k20, r1, fe_bind, v1, fe_bind, x1, fe_bind]
  · unfold f_N_handOver
    have e11 : ∀ y, ((rd_iU (rd_lU (rd_lU (rd_lU N1 2 w ((N1 2).2.1 w - cb)) 3 (4 * w + 2) ((N1 3).2.1 (4 * w + 2) + cb)) 20 (5 * d + 2) cb) 21 (5 * d + 2) y) 11).1 d = (N 11).1 d := fun y => by simp (disch := omega) only [me_ii, me_in, me_il, me_li, me_ld, me_ll, me_ln, me_di, me_dl, me_dd, me_dn, g2]
    have e01 : (N1 0).1 1 = nI t := by rw [g2 0 (by decide)]; exact t3
    simp only [if_pos (ri hd (show 10 < 2 ^ 31 by decide)), ev_c (show d < 2 ^ 31 by omega), fe_k, n16, o3, g1, fe_bind, payN c2 hw (show (2 : Int32) = nI 2 from rfl) (by omega) hd (show (2 : Int32) = nI 2 from rfl) (by omega), e11, e01, if_neg (show ¬ (2 : Int32) = 4 by decide)]
    refine r2.trans ?_
    rw [v2, fe_bind, x2, fe_bind]
  · rw [x4 _ (by omega), v4 _ (by omega), r4 _ (by omega)]
    simp (disch := omega) only [me_ii, me_in, me_il, me_li, me_ld, me_ll, me_ln, me_di, me_dl, me_dd, me_dn, q2, e3]
    exact a
