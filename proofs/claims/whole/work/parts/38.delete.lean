/-! money back, delete -/
theorem refB {u d r : Nat} {K N : rd_M} (h : qR u 10 K N) (hu : u < 400000) (hd : d < 10) (hr : r < 4) (b8 : ∀ k, k < 5 → qG d k K N) {Kf : Int32 → rd_M → Option (Int32 × rd_M)} {q3 : Int32} : ∃ (a : UInt64) (N' : rd_M), f_D_graceCosts K d ((K 0).1 4) = some a ∧ rd_nn (FP.dadd ((K (3 + 3 * r)).2.2 2) a) ∧ rd_it (fun _ _ => none) (lb_N_delete_70 q3 (nI r) (nI d) Kf) 64 0 N = Kf (nI 5) N' ∧ qR (u + 1) 10 (rd_dU K (3 + 3 * r) 2 (FP.dadd ((K (3 + 3 * r)).2.2 2) a)) N' ∧ ∀ c, c ≠ 2 → N' c = N c := by
  obtain ⟨t, t1, t2, t3⟩ := h.2.1
  obtain ⟨⟨a1, a2⟩, a3, cc, c1, c2, c3, c4⟩ := h.2.2.2.1 r hr
  have hu9 : u * 1000000 ≤ 400000 * 1000000 := Nat.mul_le_mul_right _ (by omega)
  have hu8 : (u + 1) * 1000000 = u * 1000000 + 1000000 := by omega
  unfold f_D_graceCosts
  obtain ⟨a, N', ⟨S, p1, p2, p3, p4, p5, p6, p7⟩, e1, e2⟩ := lp_two (z := fun _ _ => none) (z2 := fun _ _ => none) (lb := lb_D_graceCosts_5 K d ((K 0).1 4) (fun _ w => some w)) (lb2 := lb_N_delete_70 q3 (nI r) (nI d) Kf) (n := 5) (fun i a b => ∃ S : Int, 0 ≤ S ∧ S ≤ i * 192000 ∧ fq_D S a ∧ (∀ c, c ≠ 2 → b c = N c) ∧ (b 2).1 = (N 2).1 ∧ (∀ x, x ≠ r → (b 2).2.1 x = (N 2).2.1 x) ∧ ((b 2).2.1 r).toInt = ((N 2).2.1 r).toInt + S) (fun i hi a b hP => by
      obtain ⟨S, p1, p2, p3, p4, p5, p6, p7⟩ := hP
      obtain ⟨g1, g2⟩ := b8 i hi
      have hk : ∀ rec, lb_D_graceCosts_5 K d ((K 0).1 4) (fun _ w => some w) rec (nI i) a = if (N 21).1 (5 * d + i) < nI t then rec (nI (i + 1)) a else if rd_nn (FP.dadd a ((K (43 + 8 * d)).2.2 i)) then rec (nI (i + 1)) (FP.dadd a ((K (43 + 8 * d)).2.2 i)) else none := fun rec => by
        unfold lb_D_graceCosts_5
        rw [if_neg (nl5 hi), gonK rfl hi, fe_bind, if_pos (ri hi (by decide)), ev_c (by omega), ea1, g1, t2]
        by_cases e : (N 21).1 (5 * d + i) < nI t
        · rw [if_pos e, if_pos e, if_pos rfl]
        · rw [if_neg e, if_neg e, if_neg h10]
      have hn : ∀ rec, lb_N_delete_70 q3 (nI r) (nI d) Kf rec (nI i) b = if (N 21).1 (5 * d + i) < nI t then rec (nI (i + 1)) b else rec (nI (i + 1)) (rd_lU b 2 r ((b 2).2.1 r + (N 20).2.1 (5 * d + i))) := fun rec => by
        unfold lb_N_delete_70
        rw [if_neg (nl5 hi), gonN rfl hi hd, fe_bind, em5, nI_add, if_pos (ri hr (by decide)), if_pos (ri (show 5 * d + i < 50 by omega) (by decide)), if_pos (ri hr (by decide)), fe_k, ev_c (show r < 2 ^ 31 by omega), ev_c (show 5 * d + i < 2 ^ 31 by omega), ea1, p4 21 (by decide), p4 0 (by decide), p4 20 (by decide), t3]
        by_cases e : (N 21).1 (5 * d + i) < nI t
        · rw [if_pos e, if_pos e, if_pos rfl]
        · rw [if_neg e, if_neg e, if_neg h10]
      by_cases e : (N 21).1 (5 * d + i) < nI t
      · exact ⟨a, b, ⟨S, p1, by omega, p3, p4, p5, p6, p7⟩, fun rec => by rw [hk, if_pos e], fun rec => by rw [hn, if_pos e]⟩
      · rcases g2 with g2 | ⟨-, g3, g4, g5⟩
        · rw [g2] at e
          exact absurd (m1lt (by omega)) e
        · have hA : fq_D (S + ((N 20).2.1 (5 * d + i)).toInt) (FP.dadd a ((K (43 + 8 * d)).2.2 i)) := fq_add p3 g3 (by omega)
          refine ⟨_, rd_lU b 2 r ((b 2).2.1 r + (N 20).2.1 (5 * d + i)), ⟨S + ((N 20).2.1 (5 * d + i)).toInt, by omega, by omega, hA, fun c hc => by rw [me_lc hc]; exact p4 c hc, by rw [me_li]; exact p5, fun x hx => by rw [me_ln (fun z => hx z.2)]; exact p6 x hx, ?_⟩, fun rec => by rw [hk, if_neg e, if_pos (nn hA)], fun rec => by rw [hn, if_neg e]⟩
          rw [me_ll rfl rfl, nu_add (by omega) (by omega), p7]
          omega) 5 0 64 64 FP.dconst0 N rfl ⟨0, Int.le_refl _, by omega, fq_zero, fun _ _ => rfl, rfl, fun _ _ => rfl, by omega⟩ (by omega) (by omega)
  have p2 : S ≤ 960000 := by omega
  have hA : fq_D (((N 2).2.1 r).toInt + S) (FP.dadd ((K (3 + 3 * r)).2.2 2) a) := fq_add a1 p3 (by omega)
  refine ⟨a, N', e1.trans ?_, nn hA, e2.trans ?_, ?_, p4⟩
  · unfold lb_D_graceCosts_5; rw [if_pos (by decide)]
  · unfold lb_N_delete_70; rw [if_pos (by decide)]
  · refine h.ac (Nat.le_succ _) (by omega) hr (fun x hx => me_dc (by omega)) (fun x hx => p4 x (by omega)) (fun x hx hne => ⟨p6 x hne, fun k hk => by rw [p4 3 (by decide)], by rw [p4 4 (by decide)], fun i hi => by rw [p4 5 (by decide)]⟩) ⟨⟨?_, ?_⟩, fun k hk => ?_, cc, c1, ?_, ?_, fun i hi => ?_⟩
    · rw [me_dd rfl rfl, p7]; exact hA
    · rw [p7]; omega
    · rw [me_dc (by omega), p4 3 (by decide)]
      exact ⟨(a3 k hk).1, Nat.le_trans (a3 k hk).2 (Nat.mul_le_mul_right _ (Nat.le_succ u))⟩
    · rw [me_di]; exact c2
    · rw [p4 4 (by decide)]; exact c3
    · rw [me_di, p4 5 (by decide)]; exact c4 i hi
theorem refS {u d r : Nat} {K N : rd_M} (h : qR u 10 K N) (hu : u < 400000) (hd : d < 10) (hr : r < 4) (b8 : ∀ k, k < 5 → qG d k K N) {F : UInt64 → Option (String ⊕ (Int32 × rd_M))} {Kf : Int32 → rd_M → Option (Int32 × rd_M)} {q3 : Int32} (k : ∀ (a : UInt64) (N' : rd_M), rd_nn (FP.dadd ((K (3 + 3 * r)).2.2 2) a) → qR (u + 1) 10 (rd_dU K (3 + 3 * r) 2 (FP.dadd ((K (3 + 3 * r)).2.2 2) a)) N' → (∀ c, c ≠ 2 → N' c = N c) → qS Eq (u + 1) K (F a) (Kf (nI 5) N')) : qS Eq (u + 1) K ((f_D_graceCosts K d ((K 0).1 4)).bind F) (rd_it (fun _ _ => none) (lb_N_delete_70 q3 (nI r) (nI d) Kf) 64 0 N) := by
  obtain ⟨a, N', e1, e2, e3, e4, e5⟩ := refB h hu hd hr b8 (Kf := Kf) (q3 := q3)
  rw [e1, e3, fe_bind]
  exact k a N' e2 e4 e5
theorem delE {u d t : Nat} {K N : rd_M} (h : qR u 10 K N) (hd : d < 10) (a : (K (37 + 8 * d)).1 3 = 1) (t2 : (K 0).1 4 = nI t) (t3 : (N 0).1 1 = nI t) : ∃ K1 N', f_D_clearGraces K d = some K1 ∧ (K1 0).1 4 = nI t ∧ f_N_noGrace (rd_iU (rd_iU N 14 d 1) 15 d (nI t + 5)) (nI d) = some N' ∧ qR u 10 (rd_iU (rd_iU K1 (37 + 8 * d) 8 1) (37 + 8 * d) 9 (nI t + 5)) N' := by
  rcases h.dm hd with ⟨x, -⟩ | ⟨-, ⟨o, o1, o2, o3⟩, b1, b2, b3, b4, b5, b6, b7, b8⟩
  · rw [a] at x; exact absurd x (by decide)
  obtain ⟨K1, q1, q2, q3⟩ := cgK K d
  obtain ⟨N1, g1, g2, g3, g4, g5⟩ := ngN (rd_iU (rd_iU N 14 d 1) 15 d (nI t + 5)) hd
  refine ⟨K1, N1, q1, by rw [q2 _ (by omega) (by omega)]; exact t2, g1, ?_⟩
  have hq : qR u d K1 N1 := by
    have hq0 : qR u d K (rd_iU (rd_iU N 14 d 1) 15 d (nI t + 5)) := (((h.ex (e := d)).nw (by unfold qO; omega) (fun z => absurd z (by decide))).nw (by unfold qO; omega) (fun z => absurd z (by decide)))
    refine (hq0.nD (N' := N1) (fun c j ho _ => ?_) ⟨fun j hj => by rw [g2 19 (by decide)]; exact hq0.2.2.2.2.2.2.2.1.1 j hj, fun j hj => by rw [g2 18 (by decide)]; exact hq0.2.2.2.2.2.2.2.1.2 j hj⟩).kD hd (fun c hc => q2 c (by omega) (by omega)) (fun w hw => by rw [q2 _ (by omega) (by omega)]; exact h.2.2.2.2.2.2.1 d hd w hw)
    by_cases e : c = 21
    · subst e
      rw [g5]
      exact ⟨g3 j (by unfold qO at ho; omega), rfl⟩
    · rw [g2 c e]; exact ⟨rfl, rfl⟩
  refine ((hq.kw hd (by omega) (by omega) (fun z => absurd z (by omega))).kw hd (by omega) (by omega) (fun z => absurd z (by omega))).cl (Or.inr ⟨?_, ⟨o, o1, ?_, ?_⟩, ?_, ?_, ?_, ?_, ?_, ?_, fun w hw => ?_, fun k hk => ?_⟩)
  · simp (disch := omega) only [me_ii, me_in, me_il, me_li, me_ld, me_ll, me_ln, me_di, me_dl, me_dd, me_dn, q2]; exact a
  · simp (disch := omega) only [me_ii, me_in, me_il, me_li, me_ld, me_ll, me_ln, me_di, me_dl, me_dd, me_dn, q2]; exact o2
  · simp (disch := omega) only [me_ii, me_in, me_il, me_li, me_ld, me_ll, me_ln, me_di, me_dl, me_dd, me_dn, g2]; exact o3
  · simp (disch := omega) only [me_ii, me_in, me_il, me_li, me_ld, me_ll, me_ln, me_di, me_dl, me_dd, me_dn, q2, g2]; exact b1
  · simp (disch := omega) only [me_ii, me_in, me_il, me_li, me_ld, me_ll, me_ln, me_di, me_dl, me_dd, me_dn, q2, g2]; exact b2
  · simp (disch := omega) only [me_ii, me_in, me_il, me_li, me_ld, me_ll, me_ln, me_di, me_dl, me_dd, me_dn, q2, g2]; exact b3
  · simp (disch := omega) only [me_ii, me_in, me_il, me_li, me_ld, me_ll, me_ln, me_di, me_dl, me_dd, me_dn, q2, g2]
  · exact Or.inr ⟨Or.inl (by simp (disch := omega) only [me_ii, me_in, me_il, me_li, me_ld, me_ll, me_ln, me_di, me_dl, me_dd, me_dn, q2, g2]), by simp (disch := omega) only [me_ii, me_in, me_il, me_li, me_ld, me_ll, me_ln, me_di, me_dl, me_dd, me_dn, q2, g2]⟩
  · simp (disch := omega) only [me_ii, me_in, me_il, me_li, me_ld, me_ll, me_ln, me_di, me_dl, me_dd, me_dn, q2, g2]; exact b6
  · exact (b7 w hw).cg (by simp (disch := omega) only [me_ii, me_in, me_il, me_li, me_ld, me_ll, me_ln, me_di, me_dl, me_dd, me_dn, q2]) (fun i _ => by simp (disch := omega) only [me_ii, me_in, me_il, me_li, me_ld, me_ll, me_ln, me_di, me_dl, me_dd, me_dn, q2]) (by simp (disch := omega) only [me_ii, me_in, me_il, me_li, me_ld, me_ll, me_ln, me_di, me_dl, me_dd, me_dn, g2]) (fun i _ => by simp (disch := omega) only [me_ii, me_in, me_il, me_li, me_ld, me_ll, me_ln, me_di, me_dl, me_dd, me_dn, g2])
  · unfold qG
    simp (disch := omega) only [me_ii, me_in, me_il, me_li, me_ld, me_ll, me_ln, me_di, me_dl, me_dd, me_dn]
    exact ⟨by rw [q3 k hk, g4 k hk], Or.inl (g4 k hk)⟩
theorem expB {u d : Nat} {K N : rd_M} (h : qR u 10 K N) (hd : d < 10) (a : (K (37 + 8 * d)).1 3 = 1) (v : Int32) : qR u 10 (rd_iU K (37 + 8 * d) 5 v) (rd_iU N 11 d v) := by
  rcases h.dm hd with ⟨x, -⟩ | ⟨-, ⟨o, o1, o2, o3⟩, b1, b2, b3, b4, b5, b6, b7, b8⟩
  · rw [a] at x; exact absurd x (by decide)
  refine (((h.ex (e := d)).kw hd (by omega) (by omega) (fun z => absurd z (by omega))).nw (by unfold qO; omega) (fun z => absurd z (by decide))).cl (Or.inr ⟨?_, ⟨o, o1, ?_, ?_⟩, ?_, ?_, ?_, ?_, ?_, ?_, fun w hw => ?_, fun k hk => ?_⟩)
  · simp (disch := omega) only [me_ii, me_in, me_il, me_li, me_ld, me_ll, me_ln, me_di, me_dl, me_dd, me_dn]; exact a
  · simp (disch := omega) only [me_ii, me_in, me_il, me_li, me_ld, me_ll, me_ln, me_di, me_dl, me_dd, me_dn]; exact o2
  · simp (disch := omega) only [me_ii, me_in, me_il, me_li, me_ld, me_ll, me_ln, me_di, me_dl, me_dd, me_dn]; exact o3
  · simp (disch := omega) only [me_ii, me_in, me_il, me_li, me_ld, me_ll, me_ln, me_di, me_dl, me_dd, me_dn]
  · simp (disch := omega) only [me_ii, me_in, me_il, me_li, me_ld, me_ll, me_ln, me_di, me_dl, me_dd, me_dn]; exact b2
  · simp (disch := omega) only [me_ii, me_in, me_il, me_li, me_ld, me_ll, me_ln, me_di, me_dl, me_dd, me_dn]; exact b3
  · simp (disch := omega) only [me_ii, me_in, me_il, me_li, me_ld, me_ll, me_ln, me_di, me_dl, me_dd, me_dn]; exact b4
  · simp (disch := omega) only [me_ii, me_in, me_il, me_li, me_ld, me_ll, me_ln, me_di, me_dl, me_dd, me_dn]; exact b5
  · simp (disch := omega) only [me_ii, me_in, me_il, me_li, me_ld, me_ll, me_ln, me_di, me_dl, me_dd, me_dn]; exact b6
  · exact (b7 w hw).cg (by simp (disch := omega) only [me_ii, me_in, me_il, me_li, me_ld, me_ll, me_ln, me_di, me_dl, me_dd, me_dn]) (fun i _ => by simp (disch := omega) only [me_ii, me_in, me_il, me_li, me_ld, me_ll, me_ln, me_di, me_dl, me_dd, me_dn]) (by simp (disch := omega) only [me_ii, me_in, me_il, me_li, me_ld, me_ll, me_ln, me_di, me_dl, me_dd, me_dn]) (fun i _ => by simp (disch := omega) only [me_ii, me_in, me_il, me_li, me_ld, me_ll, me_ln, me_di, me_dl, me_dd, me_dn])
  · exact (b8 k hk).cg (by simp (disch := omega) only [me_ii, me_in, me_il, me_li, me_ld, me_ll, me_ln, me_di, me_dl, me_dd, me_dn]) (by simp (disch := omega) only [me_ii, me_in, me_il, me_li, me_ld, me_ll, me_ln, me_di, me_dl, me_dd, me_dn]) (by simp (disch := omega) only [me_ii, me_in, me_il, me_li, me_ld, me_ll, me_ln, me_di, me_dl, me_dd, me_dn]) (by simp (disch := omega) only [me_ii, me_in, me_il, me_li, me_ld, me_ll, me_ln, me_di, me_dl, me_dd, me_dn])
theorem sim_delete {u : Nat} {K N : rd_M} (h : qR u 10 K N) (hu : u < 400000) (p1 p2 : Int32) : qS Eq (u + 1) K (f_K_delete K p1 p2) (f_N_delete N p1 p2) := by
  have h' : qR (u + 1) 10 K N := h.up (by omega) (by omega)
  obtain ⟨t, t1, t2, t3⟩ := h.2.1
  unfold f_K_delete f_N_delete f_D_enter
  simp only [f_regb, f_namb, f_rrb, f_inb, f_fail, f_give, fe_bind]
  by_cases h1 : 0 ≤ p1 ∧ p1 ≤ 3
  · by_cases h2 : 0 ≤ p2 ∧ p2 ≤ 9
    · obtain ⟨d, hd, rfl⟩ := rg_of (n := 9) (by decide) h2
      have hd : d < 10 := by omega
      obtain ⟨r, hr, rfl⟩ := rg_of (n := 3) (by decide) h1
      have hr : r < 4 := by omega
      simp only [if_pos h1, if_pos h2, kdtb hd, ownb, stab, unlb, notb, if_pos (ri hd (show 10 < 2 ^ 31 by decide)), ev_c (show d < 2 ^ 31 by omega), fe_k]
      rw [bar hd, fe_bind]
      rcases h.dm hd with ⟨a, b⟩ | ⟨a, ⟨o, o1, o2, o3⟩, b1, b2, b3, b4, b5, b6, b7, b8⟩
      · simp only [if_pos a, b, if_neg im1, if_neg i20]; exact qS_2 h'
      · obtain ⟨w1, w2⟩ := wnt b6
        simp only [a, o2, o3, b3, b4, w1, if_neg h10, if_pos (nI_pos' (show o < 2 ^ 31 by omega))]
        by_cases g1 : nI o = nI r
        · simp only [if_pos g1]
          by_cases g2 : (N 14).1 d = 0
          · simp only [if_pos g2]
            by_cases g3 : (N 13).1 d &&& 2 = 0
            · simp only [if_pos g3, if_pos i00]
              rcases w2 with w2 | ⟨w, w3, w2⟩
              · simp only [w2, if_true, if_neg im1]
                obtain ⟨v, v1, v2⟩ := needB h hd (by rw [o3]; exact nI_pos (by omega))
                simp only [v1, v2, fe_bind]
                by_cases g4 : v = 0
                · simp only [if_pos g4, if_pos (ri hr (show 4 < 2 ^ 31 by decide)), ev_c (show r < 2 ^ 31 by omega)]
                  refine refS h hu hd hr b8 (fun x N1 e2 e4 e5 => ?_)
                  have f0 : ∀ c, ((rd_dU K (3 + 3 * r) 2 (FP.dadd ((K (3 + 3 * r)).2.2 2) x)) c).1 = (K c).1 := fun c => me_di
                  have t4 : ((rd_dU K (3 + 3 * r) 2 (FP.dadd ((K (3 + 3 * r)).2.2 2) x)) 0).1 4 = nI t := by rw [f0]; exact t2
                  have t5 : (N1 0).1 1 = nI t := by rw [e5 0 (by decide)]; exact t3
                  have t6 : ((rd_dU K (3 + 3 * r) 2 (FP.dadd ((K (3 + 3 * r)).2.2 2) x)) (37 + 8 * d)).1 3 = 1 := by rw [f0]; exact a
                  have y0 := (b8 0 (by omega)).1
                  have y4 := (b8 4 (by omega)).1
                  simp only [if_pos e2, gonK (show (0 : Int32) = nI 0 from rfl) (show 0 < 5 by omega), gonK (show (4 : Int32) = nI 4 from rfl) (show 4 < 5 by omega), gonN (show (0 : Int32) = nI 0 from rfl) (show 0 < 5 by omega) hd, gonN (show (4 : Int32) = nI 4 from rfl) (show 4 < 5 by omega) hd, e5 21 (by decide), t4, t5, f0, y0, y4, fe_bind]
                  by_cases q0 : (N 21).1 (5 * d + 0) < nI t
                  · simp only [if_pos q0, if_true]
                    by_cases q4 : (N 21).1 (5 * d + 4) < nI t
                    · simp only [if_pos q4, if_true]
                      obtain ⟨K2, N2, z1, z2, z3, z4⟩ := delE e4 hd t6 t4 t5
                      have z5 : ((rd_iU N1 14 d 1) 0).1 1 = nI t := by rw [me_ic (by decide)]; exact t5
                      simp only [z1, z2, z3, z5, fe_bind]
                      exact qS_0 rfl z4
                    · simp only [if_neg q4, if_neg h10]
                      have e4' := expB e4 hd t6 ((K (37 + 8 * d)).1 5 - 10)
                      obtain ⟨K2, N2, z1, z2, z3, z4⟩ := delE e4' hd (by rw [me_in (by omega)]; exact t6) (by rw [me_ic (by omega)]; exact t4) (by rw [me_ic (by omega)]; exact t5)
                      have z5 : ∀ v, ((rd_iU (rd_iU N1 11 d v) 14 d 1) 0).1 1 = nI t := fun v => by rw [me_ic (by decide), me_ic (by decide)]; exact t5
                      have z6 : (N1 11).1 d - 10 = (K (37 + 8 * d)).1 5 - 10 := by rw [e5 11 (by decide), b1]
                      simp only [z5, z6]
                      simp only [z1, z2, z3, fe_bind]
                      exact qS_0 rfl z4
                  · simp only [if_neg q0, if_neg h10]
                    obtain ⟨K2, N2, z1, z2, z3, -⟩ := dropDB e4 hd
                    simp only [z1, z2, fe_bind]
                    exact qS_0 rfl z3
                · simp only [if_neg g4]; exact qS_4 h'
              · simp only [w2, em1 (show w < 2 ^ 31 by omega), if_false, if_pos (nI_pos' (show w < 2 ^ 31 by omega))]; exact qS_4 h'
            · simp only [if_neg g3, if_neg i30]; exact qS_3 h'
          · simp only [if_neg g2]
            by_cases g3 : (N 13).1 d &&& 2 = 0
            · simp only [if_pos g3, if_neg i30]; exact qS_3 h'
            · simp only [if_neg g3, if_neg i30]; exact qS_3 h'
        · simp only [if_neg g1, if_neg i30]; exact qS_3 h'
    · simp only [if_pos h1, if_neg h2]; exact qS_1 h'
  · simp only [if_neg h1]; exact qS_1 h' 
