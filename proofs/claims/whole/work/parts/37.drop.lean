/-! needed elsewhere -/
theorem lp_any {z : Int32 → Option Int32} {lb : (Int32 → Option Int32) → Int32 → Option Int32} {n : Nat} (g : Nat → Bool) (step : ∀ i, i < n → ∀ rec, lb rec (nI i) = if g i = true then some 1 else rec (nI (i + 1))) (last : ∀ rec, lb rec (nI n) = some 0) : ∀ k i fu, i + k = n → k < fu → rd_it z lb fu (nI i) = some (if qcnt g n = qcnt g i then 0 else 1) := by
  intro k
  induction k with
  | zero =>
    intro i fu hi hf
    obtain rfl : i = n := by omega
    obtain ⟨f, rfl⟩ : ∃ f, fu = f + 1 := ⟨fu - 1, by omega⟩
    rw [rd_it_s, last, if_pos rfl]
  | succ k ih =>
    intro i fu hi hf
    obtain ⟨f, rfl⟩ : ∃ f, fu = f + 1 := ⟨fu - 1, by omega⟩
    rw [rd_it_s, step i (by omega)]
    by_cases e : g i = true
    · have := qcnt_lt (f := g) (a := i) (b := n) (by omega) e
      rw [if_pos e, if_neg (by omega)]
    · rw [if_neg e, ih (i + 1) f (by omega) (by omega)]
      have e2 : qcnt g (i + 1) = qcnt g i := by rw [qcnt_s, if_neg e]; rfl
      rw [e2]
theorem needB {u d : Nat} {K N : rd_M} (h : qR u 10 K N) (hd : d < 10) (hN : ¬ (N 10).1 d < 0) : ∃ v, f_K_othersUseHostsUnder K (nI d) = some v ∧ f_N_neededElsewhere N (nI d) = some v := by
  obtain ⟨c, f, c1, c2, c3, c4, c5, c6⟩ := hostF h.2.2.2.2.2.1
  have own : ∀ i, ∃ v, f_D_uses K d 1 (nI i) = some (if v < 0 then 0 else 1) ∧ f_N_placeOf N (nI d) 1 (nI i) = some v := fun i => by
    rcases us1 (nI i) (show (1 : Int32) = nI 1 from rfl) hd (by omega) (h.dm hd) with ⟨e1, e2⟩ | ⟨e1, -, p, e3, e4⟩
    · rcases e2 with e2 | ⟨-, e2⟩
      · exact absurd e2 hN
      · exact ⟨-1, e1, e2⟩
    · exact ⟨nI p, by rw [if_neg (nI_pos (by omega))]; exact e1, e4⟩
  obtain ⟨ow, how⟩ := Classical.axiomOfChoice own
  obtain ⟨us, hus⟩ := Classical.axiomOfChoice (fun i : Nat => usB (nI i) (show (1 : Int32) = nI 1 from rfl) (by omega) h)
  refine ⟨if qcnt (fun i => decide (f i = true ∧ (N 9).1 i = nI d ∧ ¬ nI (us i) ≤ (if ow i < 0 then 0 else 1))) 8 = 0 then 0 else 1, ?_, ?_⟩
  · unfold f_K_othersUseHostsUnder
    refine (lp_any (fun i => decide (f i = true ∧ (N 9).1 i = nI d ∧ ¬ nI (us i) ≤ (if ow i < 0 then 0 else 1))) (n := 8) (fun i hi rec => ?_) (fun rec => ?_) 8 0 64 rfl (by omega)).trans rfl
    · unfold lb_K_othersUseHostsUnder_2
      rw [if_neg (nl8 hi), if_pos (ri hd (by decide)), ev_c (by omega), (how i).1, fe_bind, fe_k, liesB c1 c4 c5 c6 hi, fe_bind, (hus i).2.1, fe_bind, ea1]
      by_cases e1 : f i = true ∧ (N 9).1 i = nI d
      · rw [if_pos e1, if_neg h10]
        by_cases e2 : ow i < 0
        · simp only [if_pos e2, if_true, e1, true_and]
          by_cases e3 : nI (us i) ≤ 0
          · simp [e3]
          · simp [e3]
        · simp only [if_neg e2, if_neg h10, e1, true_and]
          by_cases e3 : nI (us i) ≤ 1
          · simp [e3]
          · simp [e3]
      · rw [if_neg e1, if_pos rfl, if_neg (by simp only [decide_eq_true_eq]; exact fun z => e1 ⟨z.1, z.2.1⟩)]
    · unfold lb_K_othersUseHostsUnder_2
      rw [if_pos (by decide)]
  · unfold f_N_neededElsewhere
    rw [show (8 : Nat) = c + (8 - c) by omega, qcnt_ext (fun j hj => by simp [c4 j hj])]
    refine (lp_any (fun i => decide (f i = true ∧ (N 9).1 i = nI d ∧ ¬ nI (us i) ≤ (if ow i < 0 then 0 else 1))) (n := c) (fun i hi rec => ?_) (fun rec => ?_) c 0 64 (by omega) (by omega)).trans rfl
    · unfold lb_N_neededElsewhere_2
      rw [c2, if_neg (nI_ge hi (by omega)), if_pos (ri (show i < 8 by omega) (by decide)), if_pos (ri (show i < 8 by omega) (by decide)), ev_c (by omega), (how i).2, fe_bind, fe_k, (hus i).2.2, fe_bind, ea1]
      rcases c6 i hi with ⟨x, y⟩ | ⟨x, ⟨m, m1, m2⟩, -⟩
      · rw [y, if_pos (by decide), if_neg (by simp [x])]
      · rw [m2, if_neg (nI_pos (by omega))]
        by_cases e1 : (N 9).1 i = nI d
        · rw [if_pos e1]
          simp only [x, e1, true_and]
          by_cases e3 : nI (us i) ≤ (if ow i < 0 then 0 else 1)
          · simp [e3]
          · simp [e3]
        · rw [if_neg e1, if_neg (by simp only [decide_eq_true_eq]; exact fun z => e1 z.2.1)]
    · unfold lb_N_neededElsewhere_2
      rw [c2, if_pos (nI_le (Nat.le_refl _) (by omega))]
/-! a host is dropped -/
theorem tkA {K : rd_M} {d w s : Nat} {x : Int32} (hs : s ≤ 3) (h : (K (39 + 8 * d + 2 * w)).1 1 = nI s) : ∃ K', f_R_takeOff K d w x = some K' ∧ (∀ c, c ≠ 39 + 8 * d + 2 * w → c ≠ 40 + 8 * d + 2 * w → K' c = K c) ∧ ∃ s', s' ≤ 3 ∧ (K' (39 + 8 * d + 2 * w)).1 1 = nI s' := by
  have e := plK (d := d) (w := w) x hs h
  rcases qpl_or (s := s) (f := (K (40 + 8 * d + 2 * w)).1) (x := x) with e2 | ⟨p, p1, p2, e2⟩
  · rw [e2] at e
    refine ⟨K, ?_, fun _ _ _ => rfl, s, hs, h⟩
    unfold f_R_takeOff
    rw [e, fe_bind, if_pos rfl]
  · rw [e2] at e
    obtain ⟨s', rfl⟩ : ∃ s', s = s' + 1 := ⟨s - 1, by omega⟩
    obtain ⟨K', d1, d2, d3, -⟩ := tkK hs h p1 e
    exact ⟨K', d1, d2, s', by omega, d3⟩
theorem tkAN {N : rd_M} {d s : Nat} {x : Int32} (hd : d < 10) (hs : s ≤ 3) (hv : ∀ j, j < 60 → ∃ m, m < 8 ∧ (N 18).1 j = nI m) (h : (N 19).1 (2 * d + 1) = nI s) : ∃ v, f_N_placeOf N (nI d) 1 x = some v ∧ ∃ N', (v < 0 → N' = N) ∧ (¬ v < 0 → f_N_takeOff N (nI d) 1 v = some N') ∧ (∀ c, c ≠ 18 → c ≠ 19 → N' c = N c) ∧ (∀ j, j ≠ 2 * d + 1 → (N' 19).1 j = (N 19).1 j) ∧ (∀ j, j < 6 * d + 3 * 1 ∨ 6 * d + 3 * 1 + 3 ≤ j → (N' 18).1 j = (N 18).1 j) ∧ ((N' 18).2 = (N 18).2 ∧ (N' 19).2 = (N 19).2) ∧ (∃ s, s ≤ 3 ∧ (N' 19).1 (2 * d + 1) = nI s) ∧ ∀ i, i < 3 → ∃ m, m < 8 ∧ (N' 18).1 (6 * d + 3 * 1 + i) = nI m := by
  have e := plN (d := d) (w := 1) x (show (1 : Int32) = nI 1 from rfl) hd (by omega) hs h
  refine ⟨_, e, ?_⟩
  rcases qpl_or (s := s) (f := fun i => (N 18).1 (6 * d + 3 * 1 + i)) (x := x) with e2 | ⟨p, p1, p2, e2⟩
  · rw [e2]
    exact ⟨N, fun _ => rfl, fun z => absurd (show (-1 : Int32) < 0 by decide) z, fun _ _ _ => rfl, fun _ _ => rfl, fun _ _ => rfl, ⟨rfl, rfl⟩, ⟨s, hs, h⟩, fun i hi => hv _ (by omega)⟩
  · rw [e2]
    obtain ⟨s', rfl⟩ : ∃ s', s = s' + 1 := ⟨s - 1, by omega⟩
    obtain ⟨N', d1, d2, d3, d4, d5, d6, d7⟩ := tkN (show (1 : Int32) = nI 1 from rfl) hd (by omega) hs h p1
    refine ⟨N', fun z => absurd z (nI_pos (by omega)), fun _ => d1, d2, fun j hj => ?_, d5, ⟨d4, ?_⟩, ⟨s', by omega, ?_⟩, fun i hi => ?_⟩
    · rw [d3, me_in (by omega)]
    · rw [d3, me_il]
    · rw [d3, me_ii rfl rfl]
    · obtain ⟨j', j1, j2⟩ := d7 i hi
      rw [j2]
      exact hv _ (by omega)
theorem hostOff {u e c i : Nat} {K N : rd_M} (h : qR u e K N) (hN : (N 0).1 9 = nI c) (hc : c ≤ 8) (hi : i < c) : qR u e (rd_iU K (18 + 10 * 1 + i) 0 0) (rd_iU N 7 i (-1)) := by
  obtain ⟨c0, d1, d2, d3, d4⟩ := h.2.2.2.2.2.1
  obtain rfl : c0 = c := by rw [hN, eII (by omega) (by omega)] at d3; exact d3.symm
  refine h.ho (fun x hx => me_ic (by omega)) (fun x _ h7 _ _ => me_ic h7) (by rw [me_ic (by decide)]) (by rw [me_ic (by decide)]) ⟨c0, d1, by rw [me_ic (by omega)]; exact d2, by rw [me_ic (by decide)]; exact d3, fun j hj => ?_⟩
  by_cases e1 : j = i
  · subst e1
    exact ⟨Or.inl ⟨me_ii rfl rfl, me_ii rfl rfl⟩, fun z => absurd ((me_ii rfl rfl).symm.trans z) (by decide)⟩
  · rw [me_ic (show 18 + 10 * 1 + j ≠ 18 + 10 * 1 + i by omega), me_in (by omega), me_ic (by decide), me_ic (by decide)]
    exact d4 j hj
theorem dropHB {u e c i : Nat} {K N : rd_M} (h : qR u e K N) (hN : (N 0).1 9 = nI c) (hc : c ≤ 8) (hi : i < c) : ∃ K' N', f_K_dropHost K (nI i) = some K' ∧ f_N_removeHost N (nI i) = some N' ∧ qR u e K' N' ∧ (∀ d, d < 10 → K' (37 + 8 * d) = K (37 + 8 * d)) ∧ (∀ x, x ≠ 7 → x ≠ 18 → x ≠ 19 → N' x = N x) := by
  have h0 := hostOff h hN hc hi
  unfold f_K_dropHost f_N_removeHost
  rw [if_pos (ri (show i < 8 by omega) (by decide)), if_pos (ri (show i < 8 by omega) (by decide)), fe_k, fe_k, ev_c (by omega)]
  obtain ⟨K', N', ⟨p1, p2, p3⟩, e1, e2⟩ := lp_two (z := fun _ _ => none) (z2 := fun _ _ => none) (lb := lb_K_dropHost_17 (nI i) (fun _ w => some w)) (lb2 := lb_N_removeHost_9 (nI i) (fun _ w => some w)) (n := 10) (fun _ a b => qR u e a b ∧ (∀ d, d < 10 → a (37 + 8 * d) = K (37 + 8 * d)) ∧ ∀ x, x ≠ 7 → x ≠ 18 → x ≠ 19 → b x = N x) (fun d hd a b hP => by
      obtain ⟨p1, p2, p3⟩ := hP
      have hk : ∀ rec, lb_K_dropHost_17 (nI i) (fun _ w => some w) rec (nI d) a = (f_R_takeOff a d 1 (nI i)).bind fun r5 => rec (nI (d + 1)) r5 := fun rec => by
        unfold lb_K_dropHost_17
        rw [if_neg (nl10 hd), if_pos (ri hd (by decide)), ev_c (by omega), ea1]
      have hn : ∀ rec, lb_N_removeHost_9 (nI i) (fun _ w => some w) rec (nI d) b = (f_N_placeOf b (nI d) 1 (nI i)).bind fun r4 => if (b 10).1 d < 0 then rec (nI (d + 1)) b else if r4 < 0 then rec (nI (d + 1)) b else (f_N_takeOff b (nI d) 1 r4).bind fun r8 => rec (nI (d + 1)) r8 := fun rec => by
        unfold lb_N_removeHost_9
        simp only [if_neg (nl10 hd), if_pos (ri hd (show 10 < 2 ^ 31 by decide)), ev_c (show d < 2 ^ 31 by omega), ea1]
      obtain ⟨s, s1, s2⟩ := p1.2.2.2.2.2.2.1 d hd 1 (by omega)
      obtain ⟨s', s1', s2'⟩ := p1.2.2.2.2.2.2.2.1.1 (2 * d + 1) (by omega)
      have fK : ∀ K' : rd_M, (∀ c, c ≠ 39 + 8 * d + 2 * 1 → c ≠ 40 + 8 * d + 2 * 1 → K' c = a c) → ∀ d, d < 10 → K' (37 + 8 * d) = K (37 + 8 * d) := fun K' hK d hd => by
        rw [hK _ (by omega) (by omega)]; exact p2 d hd
      have fN : ∀ N' : rd_M, (∀ c, c ≠ 18 → c ≠ 19 → N' c = b c) → ∀ x, x ≠ 7 → x ≠ 18 → x ≠ 19 → N' x = N x := fun N' hN x h7 h1 h2 => by
        rw [hN x h1 h2]; exact p3 x h7 h1 h2
      obtain ⟨K', k1, k2, k3⟩ := tkA (d := d) (w := 1) (x := nI i) s1 s2
      obtain ⟨v, v1, N', v2, v3, v4, v5, v6, v7, v8, v9⟩ := tkAN (x := nI i) hd s1' p1.2.2.2.2.2.2.2.1.2 s2'
      by_cases ed : d = e
      · by_cases eo : (b 10).1 d < 0 ∨ v < 0
        · refine ⟨K', b, ⟨p1.dw hd (show 1 < 2 by omega) k2 (fun _ _ _ => rfl) (fun _ _ => rfl) (fun _ _ => rfl) ⟨rfl, rfl⟩ k3 ⟨s', s1', s2'⟩ (fun i hi => p1.2.2.2.2.2.2.2.1.2 _ (by omega)) (fun z => absurd ed z), fK K' k2, p3⟩, fun rec => by rw [hk, k1, fe_bind], fun rec => ?_⟩
          rw [hn, v1, fe_bind]
          by_cases e3 : (b 10).1 d < 0
          · rw [if_pos e3]
          · rw [if_neg e3, if_pos (eo.resolve_left e3)]
        · refine ⟨K', N', ⟨p1.dw hd (show 1 < 2 by omega) k2 v4 v5 v6 v7 k3 v8 v9 (fun z => absurd ed z), fK K' k2, fN N' v4⟩, fun rec => by rw [hk, k1, fe_bind], fun rec => ?_⟩
          rw [hn, v1, fe_bind, if_neg (fun z => eo (Or.inl z)), if_neg (fun z => eo (Or.inr z)), v3 (fun z => eo (Or.inr z)), fe_bind]
      · rcases p1.2.2.2.2.2.2.2.2 d hd ed with ⟨x, y⟩ | ⟨x, ⟨o, o1, o2, o3⟩, -, -, -, -, -, -, b7, -⟩
        · refine ⟨K', b, ⟨p1.dw hd (show 1 < 2 by omega) k2 (fun _ _ _ => rfl) (fun _ _ => rfl) (fun _ _ => rfl) ⟨rfl, rfl⟩ k3 ⟨s', s1', s2'⟩ (fun i hi => p1.2.2.2.2.2.2.2.1.2 _ (by omega)) (fun _ _ z => absurd (x.symm.trans z) (by decide)), fK K' k2, p3⟩, fun rec => by rw [hk, k1, fe_bind], fun rec => ?_⟩
          rw [hn, v1, fe_bind, y, if_pos (by decide)]
        · obtain ⟨s, v, q1, q2, q3, e1, e2, e3⟩ := plB (nI i) (show (1 : Int32) = nI 1 from rfl) hd (by omega) (b7 1 (by omega))
          rcases e3 with rfl | ⟨p, p4, p5, rfl⟩
          · refine ⟨a, b, ⟨p1, p2, p3⟩, fun rec => ?_, fun rec => ?_⟩
            · rw [hk]
              unfold f_R_takeOff
              rw [e1, fe_bind, if_pos rfl, fe_bind]
            · rw [hn, e2, fe_bind, o3, if_neg (nI_pos (by omega)), if_pos (by decide)]
          · obtain ⟨s0, rfl⟩ : ∃ s', s = s' + 1 := ⟨s - 1, by omega⟩
            obtain ⟨K9, N9, t1, t2, t3, -, -, t4, t5⟩ := takeB p1 (show (1 : Int32) = nI 1 from rfl) hd (show 1 < 2 by omega) q1 q2 q3 p4 e1 (fun _ => b7 1 (by omega))
            refine ⟨K9, N9, ⟨t3, fK K9 t4, fN N9 t5⟩, fun rec => by rw [hk, t1, fe_bind], fun rec => ?_⟩
            rw [hn, e2, fe_bind, o3, if_neg (nI_pos (by omega)), if_neg (nI_pos (by omega)), t2, fe_bind]) 10 0 64 64 (rd_iU K (18 + 10 * 1 + i) 0 0) (rd_iU N 7 i (-1)) rfl ⟨h0, fun d hd => me_ic (by omega), fun x h7 _ _ => me_ic h7⟩ (by omega) (by omega)
  refine ⟨K', N', e1.trans ?_, e2.trans ?_, p1, p2, p3⟩
  · unfold lb_K_dropHost_17; rw [if_pos (by decide)]
  · unfold lb_N_removeHost_9; rw [if_pos (by decide)]
/-! a domain is dropped -/
theorem dropDB {u d : Nat} {K N : rd_M} (h : qR u 10 K N) (hd : d < 10) : ∃ K' N', f_K_dropDomain K (nI d) = some K' ∧ f_N_removeDomain N (nI d) = some N' ∧ qR u 10 K' N' ∧ (K' (37 + 8 * d)).1 4 = (K (37 + 8 * d)).1 4 := by
  have hq : qR u d (rd_iU K (37 + 8 * d) 3 0) N := (h.ex (e := d)).kw hd (by omega) (by omega) (fun z => absurd z (by omega))
  obtain ⟨c, f0, c1, c2, c3, -⟩ := hostF hq.2.2.2.2.2.1
  unfold f_K_dropDomain f_N_removeDomain
  simp only [if_pos (ri hd (show 10 < 2 ^ 31 by decide)), fe_k, ev_c (show d < 2 ^ 31 by omega)]
  obtain ⟨K', N', ⟨p1, p2, p3⟩, e1, e2⟩ := lp_two (z := fun _ _ => none) (z2 := fun _ _ => none) (lb := lb_K_dropDomain_12 (nI d) (fun _ w => some w)) (lb2 := lb_N_removeDomain_2 (nI d) (fun w2_2 w2_M => some (rd_iU w2_M 10 d (-1)))) (n := c) (fun _ a b => qR u d a b ∧ ((a (37 + 8 * d)).1 3 = 0 ∧ (a (37 + 8 * d)).1 4 = (K (37 + 8 * d)).1 4) ∧ (b 0).1 9 = nI c) (fun i hi a b hP => by
      obtain ⟨p1, p2, p3⟩ := hP
      obtain ⟨c', f, d1, d2, d3, d4, d5, d6⟩ := hostF p1.2.2.2.2.2.1
      obtain rfl : c' = c := by rw [p3, eII (by omega) (by omega)] at d2; exact d2.symm
      have hk : ∀ rec, lb_K_dropDomain_12 (nI d) (fun _ w => some w) rec (nI i) a = if f i = true ∧ (b 9).1 i = nI d then (f_K_dropHost a (nI i)).bind fun r6 => rec (nI (i + 1)) r6 else rec (nI (i + 1)) a := fun rec => by
        unfold lb_K_dropDomain_12
        rw [if_neg (nl8 (show i < 8 by omega)), liesB d1 d4 d5 d6 (show i < 8 by omega), fe_bind, ea1]
        by_cases e : f i = true ∧ (b 9).1 i = nI d
        · rw [if_pos e, if_pos e, if_neg h10]
        · rw [if_neg e, if_neg e, if_pos rfl]
      have hn : ∀ rec, lb_N_removeDomain_2 (nI d) (fun w2_2 w2_M => some (rd_iU w2_M 10 d (-1))) rec (nI i) b = if (b 7).1 i < 0 then rec (nI (i + 1)) b else if (b 9).1 i = nI d then (f_N_removeHost b (nI i)).bind fun r6 => rec (nI (i + 1)) r6 else rec (nI (i + 1)) b := fun rec => by
        unfold lb_N_removeDomain_2
        rw [p3, if_neg (nI_ge hi (by omega)), if_pos (ri (show i < 8 by omega) (by decide)), if_pos (ri (show i < 8 by omega) (by decide)), ev_c (by omega), ea1]
      rcases d6 i hi with ⟨x, y⟩ | ⟨x, ⟨m, m1, m2⟩, -⟩
      · exact ⟨a, b, ⟨p1, p2, p3⟩, fun rec => by rw [hk, if_neg (fun z => by rw [x] at z; cases z.1)], fun rec => by rw [hn, y, if_pos (by decide)]⟩
      · by_cases e : (b 9).1 i = nI d
        · obtain ⟨K9, N9, t1, t2, t3, t4, t5⟩ := dropHB p1 p3 d1 hi
          refine ⟨K9, N9, ⟨t3, ?_, ?_⟩, fun rec => by rw [hk, if_pos ⟨x, e⟩, t1, fe_bind], fun rec => by rw [hn, m2, if_neg (nI_pos (by omega)), if_pos e, t2, fe_bind]⟩
          · rw [t4 d hd]; exact p2
          · rw [t5 0 (by decide) (by decide) (by decide)]; exact p3
        · exact ⟨a, b, ⟨p1, p2, p3⟩, fun rec => by rw [hk, if_neg (fun z => e z.2)], fun rec => by rw [hn, m2, if_neg (nI_pos (by omega)), if_neg e]⟩) c 0 64 64 (rd_iU K (37 + 8 * d) 3 0) N (by omega) ⟨hq, ⟨me_ii rfl rfl, me_in (by omega)⟩, c2⟩ (by omega) (by omega)
  refine ⟨K', rd_iU N' 10 d (-1), e1.trans ?_, e2.trans ?_, (p1.nw (by unfold qO; omega) (fun z => absurd z (by decide))).cl (Or.inl ⟨p2.1, me_ii rfl rfl⟩), p2.2⟩
  · obtain ⟨c', f, d1, d2, d3, d4, d5, d6⟩ := hostF p1.2.2.2.2.2.1
    obtain rfl : c' = c := by rw [p3, eII (by omega) (by omega)] at d2; exact d2.symm
    obtain ⟨a', p9, e9⟩ := lp_run (z := fun _ _ => none) (lb := lb_K_dropDomain_12 (nI d) (fun _ w => some w)) (n := 8) (fun _ a => a) (fun i a => c' ≤ i ∧ a = K') (fun i hi a hP => by
      obtain ⟨x, rfl⟩ := hP
      refine ⟨⟨by omega, rfl⟩, fun rec => ?_⟩
      unfold lb_K_dropDomain_12
      rw [if_neg (nl8 hi), liesB d1 d4 d5 d6 hi, fe_bind, ea1, d4 i x]
      rfl) (8 - c') c' (64 - c') K' (by omega) ⟨Nat.le_refl _, rfl⟩ (by omega)
    obtain ⟨-, rfl⟩ := p9
    refine (congrFun (congrFun (rd_it_s (fun _ _ => none) (lb_K_dropDomain_12 (nI d) (fun _ w => some w)) (64 - c' - 1)).symm (nI c')) a').trans ?_
    rw [show 64 - c' - 1 + 1 = 64 - c' by omega, e9]
    unfold lb_K_dropDomain_12
    rw [if_pos (by decide)]
  · unfold lb_N_removeDomain_2
    rw [p3, if_pos (nI_le (Nat.le_refl _) (by omega))]
