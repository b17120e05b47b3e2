/-! messages, graces, rows -/
theorem dropB {u e r : Nat} {K N : rd_M} (h : qR u e K N) (hr : r < 4) {m : Nat} (hm : m + 1 ≤ 12) (hK : (K (3 + 3 * r)).1 3 = nI (m + 1)) (hN : (N 4).1 r = nI (m + 1)) : ∃ K' N', f_A_dropOldest K r = some K' ∧ f_N_drop N (nI r) = some N' ∧ qR u e K' N' ∧ (K' (3 + 3 * r)).1 3 = nI m ∧ (N' 4).1 r = nI m ∧ (∀ x, x < 3 + 3 * r ∨ 5 + 3 * r < x → K' x = K x) ∧ ∀ x, x ≠ 4 → x ≠ 5 → N' x = N x := by
  obtain ⟨⟨a1, a2⟩, a3, c, c1, c2, c3, c4⟩ := h.2.2.2.1 r hr
  obtain rfl : c = m + 1 := by rw [hK, eII (by omega) (by omega)] at c2; exact c2.symm
  have kstep : ∀ i, i < m → ∀ a : rd_M, (a (3 + 3 * r)).1 3 = nI m → ∀ rec, lb_A_dropOldest_19 r (fun _ w => some w) rec (nI i) a = rec (nI (i + 1)) (rd_iU a (5 + 3 * r) i ((a (5 + 3 * r)).1 (i + 1))) := by
    intro i hi a ha rec
    unfold lb_A_dropOldest_19
    rw [ha, if_neg (nI_ge hi (by omega)), ea1, if_pos (ri (show i + 1 < 12 by omega) (by decide)), if_pos (ri (show i < 12 by omega) (by decide)), fe_k, ev_c (show i < 2 ^ 31 by omega), ev_c (show i + 1 < 2 ^ 31 by omega)]
  have nstep : ∀ i, i < m → ∀ b : rd_M, (b 4).1 r = nI m → ∀ rec, lb_N_drop_12 (nI r) (fun _ w => some w) rec (nI i) b = rec (nI (i + 1)) (rd_iU b 5 (12 * r + i) ((b 5).1 (12 * r + i + 1))) := by
    intro i hi b hb rec
    unfold lb_N_drop_12
    rw [em12, nI_add, ea1, ea1, if_pos (ri (show r < 4 by omega) (by decide)), if_pos (ri (show 12 * r + i + 1 < 48 by omega) (by decide)), if_pos (ri (show 12 * r + i < 48 by omega) (by decide)), fe_k, ev_c (show r < 2 ^ 31 by omega), ev_c (show 12 * r + i < 2 ^ 31 by omega), ev_c (show 12 * r + i + 1 < 2 ^ 31 by omega), hb, if_neg (nI_ge hi (by omega))]
  obtain ⟨K', N', ⟨p1, p2, p3, p4, p5, p6, p7⟩, e1, e2⟩ := lp_two (z := fun _ _ => none) (z2 := fun _ _ => none) (lb := lb_A_dropOldest_19 r (fun _ w => some w)) (lb2 := lb_N_drop_12 (nI r) (fun _ w => some w)) (n := m) (fun _ a b => (a (3 + 3 * r)).1 3 = nI m ∧ (b 4).1 r = nI m ∧ (∀ x, x ≠ 5 + 3 * r → a x = rd_iU K (3 + 3 * r) 3 (nI m) x) ∧ (∀ x, x ≠ 5 → b x = rd_iU N 4 r (nI m) x) ∧ (∀ j, j < m + 1 → (a (5 + 3 * r)).1 j = (b 5).1 (12 * r + j)) ∧ (∀ j, j < 12 * r ∨ 12 * r + 12 ≤ j → (b 5).1 j = (N 5).1 j) ∧ (b 5).2 = (N 5).2) (fun i hi a b hP => by
      obtain ⟨p1, p2, p3, p4, p5, p6, p7⟩ := hP
      refine ⟨_, _, ⟨?_, ?_, fun x hx => ?_, fun x hx => ?_, fun j hj => ?_, fun j hj => ?_, ?_⟩, kstep i hi a p1, nstep i hi b p2⟩
      · rw [me_ic (by omega)]; exact p1
      · rw [me_ic (by omega)]; exact p2
      · rw [me_ic (by omega)]; exact p3 x hx
      · rw [me_ic (by omega)]; exact p4 x hx
      · by_cases e1 : j = i
        · subst e1
          rw [me_ii rfl rfl, me_ii rfl rfl]
          exact p5 (j + 1) (by omega)
        · rw [me_in (by omega), me_in (by omega)]
          exact p5 j hj
      · rw [me_in (by omega)]; exact p6 j hj
      · rw [me_il]; exact p7) m 0 64 64 (rd_iU K (3 + 3 * r) 3 (nI m)) (rd_iU N 4 r (nI m)) (by omega) ⟨me_ii rfl rfl, me_ii rfl rfl, fun _ _ => rfl, fun _ _ => rfl, fun j hj => by rw [me_ic (by omega), me_ic (by omega)]; exact c4 j hj, fun j _ => by rw [me_ic (by omega)], by rw [me_ic (by omega)]⟩ (by omega) (by omega)
  refine ⟨K', N', ?_, ?_, ?_, p1, p2, fun x hx => by rw [p3 x (by omega), me_ic (by omega)], fun x h4 h5 => by rw [p4 x h5, me_ic h4]⟩
  · unfold f_A_dropOldest
    rw [hK, if_neg (nI_nle (by omega) (by omega)), fe_k, es1]
    refine e1.trans ?_
    unfold lb_A_dropOldest_19
    rw [p1, if_pos (nI_le (Nat.le_refl _) (by omega))]
  · unfold f_N_drop
    rw [if_pos (ri hr (by decide)), if_pos (ri hr (by decide)), fe_k, ev_c (by omega), hN, es1]
    refine e2.trans ?_
    unfold lb_N_drop_12
    rw [if_pos (ri hr (by decide)), if_pos (by rw [ev_c (by omega), p2]; exact nI_le (Nat.le_refl _) (by omega))]
  · refine h.ac (Nat.le_refl _) h.1 hr (fun x hx => by rw [p3 x (by omega), me_ic (by omega)]) (fun x hx => by rw [p4 x (by omega), me_ic (by omega)]) (fun x hx hne => ⟨?_, fun k hk => ?_, ?_, fun i hi => ?_⟩) ⟨⟨?_, ?_⟩, fun k hk => ?_, m, by omega, p1, p2, fun i hi => p5 i (by omega)⟩
    · rw [p4 2 (by omega), me_ic (by omega)]
    · rw [p4 3 (by omega), me_ic (by omega)]
    · rw [p4 4 (by omega), me_in (by omega)]
    · exact p6 _ (by omega)
    · rw [p4 2 (by omega), me_ic (by omega), p3 _ (by omega), me_il]; exact a1
    · rw [p4 2 (by omega), me_ic (by omega)]; exact a2
    · rw [p4 3 (by omega), me_ic (by omega), p3 _ (by omega), me_ic (by omega)]; exact a3 k hk
theorem putB {u e r : Nat} {K N : rd_M} (h : qR u e K N) (hr : r < 4) {c : Nat} (hc : c < 12) (hK : (K (3 + 3 * r)).1 3 = nI c) (hN : (N 4).1 r = nI c) (v : Int32) : qR u e (rd_iU (rd_iU K (5 + 3 * r) c v) (3 + 3 * r) 3 (nI (c + 1))) (rd_iU (rd_iU N 5 (12 * r + c) v) 4 r (nI (c + 1))) := by
  obtain ⟨⟨a1, a2⟩, a3, c0, c1, c2, c3, c4⟩ := h.2.2.2.1 r hr
  obtain rfl : c0 = c := by rw [hK, eII (by omega) (by omega)] at c2; exact c2.symm
  refine h.ac (Nat.le_refl _) h.1 hr (fun x hx => by rw [me_ic (by omega), me_ic (by omega)]) (fun x hx => by rw [me_ic (by omega), me_ic (by omega)]) (fun x hx hne => ⟨?_, fun k hk => ?_, ?_, fun i hi => ?_⟩) ⟨⟨?_, ?_⟩, fun k hk => ?_, c0 + 1, by omega, me_ii rfl rfl, me_ii rfl rfl, fun i hi => ?_⟩
  · rw [me_il, me_il]
  · rw [me_il, me_il]
  · rw [me_in (by omega), me_ic (by omega)]
  · rw [me_ic (by omega), me_in (by omega)]
  · rw [me_il, me_il, me_il, me_il]; exact a1
  · rw [me_il, me_il]; exact a2
  · rw [me_il, me_il, me_il, me_il]; exact a3 k hk
  · rw [me_ic (show 5 + 3 * r ≠ 3 + 3 * r by omega), me_ic (show (5 : Nat) ≠ 4 by decide)]
    by_cases e1 : i = c0
    · subst e1
      rw [me_ii rfl rfl, me_ii rfl rfl]
    · rw [me_in (by omega), me_in (by omega)]
      exact c4 i (by omega)
theorem tellB {u e r : Nat} {K N : rd_M} (h : qR u e K N) (hr : r < 4) (k x : Int32) : ∃ K' N', f_A_tell K r k x = some K' ∧ f_N_tell N (nI r) k x = some N' ∧ qR u e K' N' ∧ (∀ x, x < 3 + 3 * r ∨ 5 + 3 * r < x → K' x = K x) ∧ ∀ x, x ≠ 4 → x ≠ 5 → N' x = N x := by
  obtain ⟨-, -, c, c1, c2, c3, -⟩ := h.2.2.2.1 r hr
  have hK9 : ∀ (M : rd_M) (c : Nat), c < 12 → (M (3 + 3 * r)).1 3 = nI c → (if rd_in ((M (3 + 3 * r)).1 3) 12 then rd_k (rd_iU M (5 + 3 * r) (((M (3 + 3 * r)).1 3).toNatClampNeg) ((10 * k) + x)) fun M3 => rd_k (rd_iU M3 (3 + 3 * r) 3 (((M3 (3 + 3 * r)).1 3) + 1)) fun M4 => some M4 else none) = some (rd_iU (rd_iU M (5 + 3 * r) c ((10 * k) + x)) (3 + 3 * r) 3 (nI (c + 1))) := by
    intro M c hc hM
    rw [if_pos (by rw [hM]; exact ri hc (by decide)), fe_k, fe_k, me_ic (by omega), hM, ev_c (by omega), ea1]
  have hN9 : ∀ (M : rd_M) (c : Nat), c < 12 → (M 4).1 r = nI c → (if rd_in (nI r) 4 then if rd_in ((12 * nI r) + ((M 4).1 (nI r).toNatClampNeg)) 48 then rd_k (rd_iU M 5 (((12 * nI r) + ((M 4).1 (nI r).toNatClampNeg)).toNatClampNeg) ((10 * k) + x)) fun M5 => if rd_in (nI r) 4 then if rd_in (nI r) 4 then rd_k (rd_iU M5 4 (nI r).toNatClampNeg (((M5 4).1 (nI r).toNatClampNeg) + 1)) fun M8 => some M8 else none else none else none else none) = some (rd_iU (rd_iU M 5 (12 * r + c) ((10 * k) + x)) 4 r (nI (c + 1))) := by
    intro M c hc hM
    have ei : (12 * nI r) + ((M 4).1 (nI r).toNatClampNeg) = nI (12 * r + c) := by rw [ev_c (by omega), hM, em12, nI_add]
    rw [if_pos (ri hr (by decide)), ei, if_pos (ri (show 12 * r + c < 48 by omega) (by decide)), fe_k, if_pos (ri hr (by decide)), if_pos (ri hr (by decide)), fe_k, ev_c (show r < 2 ^ 31 by omega), ev_c (show 12 * r + c < 2 ^ 31 by omega), me_ic (by omega), hM, ea1]
  unfold f_A_tell f_N_tell
  by_cases h12 : c < 12
  · refine ⟨_, _, ?_, ?_, putB h hr h12 c2 c3 ((10 * k) + x), fun x hx => by rw [me_ic (by omega), me_ic (by omega)], fun x h4 h5 => by rw [me_ic h4, me_ic h5]⟩
    · rw [if_pos (by rw [c2]; exact nI_lt (b := 12) h12 (by decide))]
      exact hK9 K c h12 c2
    · rw [if_pos (ri hr (by decide)), if_neg (by rw [ev_c (by omega), c3]; exact fun z => by rw [eq12 (by omega)] at z; omega)]
      exact hN9 N c h12 c3
  · obtain rfl : c = 11 + 1 := by omega
    obtain ⟨K1, N1, e1, e2, h1, k1, n1, f1, f2⟩ := dropB h hr (by omega) c2 c3
    refine ⟨_, _, ?_, ?_, putB h1 hr (c := 11) (by omega) k1 n1 ((10 * k) + x), fun x hx => by rw [me_ic (by omega), me_ic (by omega), f1 x hx], fun x h4 h5 => by rw [me_ic h4, me_ic h5, f2 x h4 h5]⟩
    · rw [if_neg (by rw [c2]; exact nI_nlt (b := 12) (by omega) (by decide)), e1]
      exact hK9 K1 11 (by omega) k1
    · rw [if_pos (ri hr (by decide)), if_pos (by rw [ev_c (by omega), c3]; rfl), e2]
      exact hN9 N1 11 (by omega) n1
theorem cgK (K : rd_M) (d : Nat) : ∃ K', f_D_clearGraces K d = some K' ∧ (∀ c, c ≠ 43 + 8 * d → c ≠ 44 + 8 * d → K' c = K c) ∧ ∀ k, k < 5 → (K' (44 + 8 * d)).1 k = -1 := by
  unfold f_D_clearGraces
  obtain ⟨K', ⟨p1, p2⟩, e1⟩ := lp_run (z := fun _ _ => none) (lb := lb_D_clearGraces_2 d (fun _ w => some w)) (n := 5) (fun i a => rd_iU (rd_dU a (43 + 8 * d) i FP.dconst0) (44 + 8 * d) i (-1)) (fun i a => (∀ c, c ≠ 43 + 8 * d → c ≠ 44 + 8 * d → a c = K c) ∧ ∀ k, k < i → (a (44 + 8 * d)).1 k = -1) (fun i hi a hP => by
    refine ⟨⟨fun c h1 h2 => by rw [me_ic h2, me_dc h1]; exact hP.1 c h1 h2, fun k hk => ?_⟩, fun rec => ?_⟩
    · by_cases e1 : k = i
      · rw [me_ii rfl e1]
      · rw [me_in (by omega), me_di]; exact hP.2 k (by omega)
    · unfold lb_D_clearGraces_2 f_D_setGrace
      rw [if_neg (nl5 hi), if_pos (ri hi (by decide)), fe_k, if_pos (ri hi (by decide)), fe_k, fe_bind, ev_c (by omega), ea1]) 5 0 64 K rfl ⟨fun _ _ _ => rfl, fun k hk => absurd hk (by omega)⟩ (by omega)
  refine ⟨K', e1.trans ?_, p1, p2⟩
  unfold lb_D_clearGraces_2
  rw [if_pos (by decide)]
theorem ngN (N : rd_M) {d : Nat} (hd : d < 10) : ∃ N', f_N_noGrace N (nI d) = some N' ∧ (∀ c, c ≠ 21 → N' c = N c) ∧ (∀ j, j < 5 * d ∨ 5 * d + 5 ≤ j → (N' 21).1 j = (N 21).1 j) ∧ (∀ k, k < 5 → (N' 21).1 (5 * d + k) = -1) ∧ (N' 21).2 = (N 21).2 := by
  unfold f_N_noGrace
  obtain ⟨N', ⟨p1, p2, p3, p4⟩, e1⟩ := lp_run (z := fun _ _ => none) (lb := lb_N_noGrace_2 (nI d) (fun _ w => some w)) (n := 5) (fun i a => rd_iU a 21 (5 * d + i) (-1)) (fun i a => (∀ c, c ≠ 21 → a c = N c) ∧ (∀ j, j < 5 * d ∨ 5 * d + 5 ≤ j → (a 21).1 j = (N 21).1 j) ∧ (∀ k, k < i → (a 21).1 (5 * d + k) = -1) ∧ (a 21).2 = (N 21).2) (fun i hi a hP => by
    obtain ⟨p1, p2, p3, p4⟩ := hP
    refine ⟨⟨fun c h1 => by rw [me_ic h1]; exact p1 c h1, fun j hj => by rw [me_in (by omega)]; exact p2 j hj, fun k hk => ?_, by rw [me_il]; exact p4⟩, fun rec => ?_⟩
    · by_cases e1 : k = i
      · rw [me_ii rfl (by omega)]
      · rw [me_in (by omega)]; exact p3 k (by omega)
    · unfold lb_N_noGrace_2
      rw [if_neg (nl5 hi), em5, nI_add, if_pos (ri (show 5 * d + i < 50 by omega) (by decide)), fe_k, ev_c (by omega), ea1]) 5 0 64 N rfl ⟨fun _ _ => rfl, fun _ _ => rfl, fun k hk => absurd hk (by omega), rfl⟩ (by omega)
  refine ⟨N', e1.trans ?_, p1, p2, p3, p4⟩
  unfold lb_N_noGrace_2
  rw [if_pos (by decide)]
/-- a number taken off a row -/
theorem tkK {K : rd_M} {d w s p : Nat} {x : Int32} (hs : s + 1 ≤ 3) (h : (K (39 + 8 * d + 2 * w)).1 1 = nI (s + 1)) (hp : p < s + 1) (hf : f_R_placeOf K d w x = some (nI p)) : ∃ K', f_R_takeOff K d w x = some K' ∧ (∀ c, c ≠ 39 + 8 * d + 2 * w → c ≠ 40 + 8 * d + 2 * w → K' c = K c) ∧ (K' (39 + 8 * d + 2 * w)).1 1 = nI s ∧ ∀ i, i < s → (K' (40 + 8 * d + 2 * w)).1 i = (K (40 + 8 * d + 2 * w)).1 (if i < p then i else i + 1) := by
  unfold f_R_takeOff
  rw [hf, fe_bind, if_neg (by rw [em1 (by omega)]; exact not_false), fe_k, h, es1]
  obtain ⟨K', ⟨-, p1, p2, p3⟩, e1⟩ := lp_run (z := fun _ _ => none) (lb := lb_R_takeOff_23 (nI p) d w x (fun _ w => some w)) (n := s) (fun i a => rd_iU a (40 + 8 * d + 2 * w) i ((a (40 + 8 * d + 2 * w)).1 (i + 1))) (fun i a => p ≤ i ∧ (∀ c, c ≠ 40 + 8 * d + 2 * w → a c = rd_iU K (39 + 8 * d + 2 * w) 1 (nI s) c) ∧ (a (39 + 8 * d + 2 * w)).1 1 = nI s ∧ ∀ j, (a (40 + 8 * d + 2 * w)).1 j = (K (40 + 8 * d + 2 * w)).1 (if p ≤ j ∧ j < i then j + 1 else j)) (fun i hi a hP => by
    obtain ⟨p0, p1, p2, p3⟩ := hP
    refine ⟨⟨by omega, fun c h1 => by rw [me_ic h1]; exact p1 c h1, by rw [me_ic (by omega)]; exact p2, fun j => ?_⟩, fun rec => ?_⟩
    · by_cases e1 : j = i
      · rw [me_ii rfl e1, p3]
        congr 1
        rw [if_neg (by omega), if_pos (by omega), e1]
      · rw [me_in (by omega), p3]
        congr 1
        by_cases e2 : p ≤ j ∧ j < i
        · rw [if_pos e2, if_pos (by omega)]
        · rw [if_neg e2, if_neg (by omega)]
    · unfold lb_R_takeOff_23
      rw [p2, if_neg (nI_ge hi (by omega)), ea1, if_pos (ri (show i + 1 < 3 by omega) (by decide)), if_pos (ri (show i < 3 by omega) (by decide)), fe_k, ev_c (show i < 2 ^ 31 by omega), ev_c (show i + 1 < 2 ^ 31 by omega)]) (s - p) p 64 (rd_iU K (39 + 8 * d + 2 * w) 1 (nI s)) (by omega) ⟨Nat.le_refl _, fun _ _ => rfl, me_ii rfl rfl, fun j => by rw [me_ic (by omega), if_neg (by omega)]⟩ (by omega)
  refine ⟨K', e1.trans ?_, fun c h1 h2 => by rw [p1 c h2, me_ic h1], p2, fun i hi => ?_⟩
  · unfold lb_R_takeOff_23
    rw [p2, if_pos (nI_le (Nat.le_refl _) (by omega))]
  · rw [p3]
    congr 1
    by_cases e2 : i < p
    · rw [if_pos e2, if_neg (by omega)]
    · rw [if_neg e2, if_pos (by omega)]
theorem tkN {N : rd_M} {d w s p : Nat} {W : Int32} (hW : W = nI w) (hd : d < 10) (hw : w < 2) (hs : s + 1 ≤ 3) (h : (N 19).1 (2 * d + w) = nI (s + 1)) (hp : p < s + 1) : ∃ N', f_N_takeOff N (nI d) W (nI p) = some N' ∧ (∀ c, c ≠ 18 → c ≠ 19 → N' c = N c) ∧ (N' 19) = rd_iU N 19 (2 * d + w) (nI s) 19 ∧ (N' 18).2 = (N 18).2 ∧ (∀ j, j < 6 * d + 3 * w ∨ 6 * d + 3 * w + 3 ≤ j → (N' 18).1 j = (N 18).1 j) ∧ (∀ i, i < s → (N' 18).1 (6 * d + 3 * w + i) = (N 18).1 (6 * d + 3 * w + (if i < p then i else i + 1))) ∧ ∀ j, j < 3 → ∃ j', j' < 3 ∧ (N' 18).1 (6 * d + 3 * w + j) = (N 18).1 (6 * d + 3 * w + j') := by
  subst hW
  unfold f_N_takeOff
  have i2 : (2 * nI d) + nI w = nI (2 * d + w) := by rw [em2, nI_add]
  have i6 : (6 * nI d) + (3 * nI w) = nI (6 * d + 3 * w) := by rw [em6, em3, nI_add]
  rw [i2, i6, if_pos (ri (show 2 * d + w < 20 by omega) (by decide)), if_pos (ri (show 2 * d + w < 20 by omega) (by decide)), fe_k, ev_c (by omega), h, es1]
  obtain ⟨N', ⟨-, p1, p2, p3, p4, p5⟩, e1⟩ := lp_run (z := fun _ _ => none) (lb := lb_N_takeOff_27 (nI (6 * d + 3 * w)) (nI d) (nI w) (nI p) (fun _ w => some w)) (n := s) (fun i a => rd_iU a 18 (6 * d + 3 * w + i) ((a 18).1 (6 * d + 3 * w + i + 1))) (fun i a => p ≤ i ∧ (∀ c, c ≠ 18 → a c = rd_iU N 19 (2 * d + w) (nI s) c) ∧ (a 19).1 (2 * d + w) = nI s ∧ (a 18).2 = (N 18).2 ∧ (∀ j, j < 6 * d + 3 * w ∨ 6 * d + 3 * w + 3 ≤ j → (a 18).1 j = (N 18).1 j) ∧ ∀ j, j < 3 → (a 18).1 (6 * d + 3 * w + j) = (N 18).1 (6 * d + 3 * w + (if p ≤ j ∧ j < i then j + 1 else j))) (fun i hi a hP => by
    obtain ⟨p0, p1, p2, p3, p4, p5⟩ := hP
    refine ⟨⟨by omega, fun c h1 => by rw [me_ic h1]; exact p1 c h1, by rw [me_ic (by omega)]; exact p2, by rw [me_il]; exact p3, fun j hj => by rw [me_in (by omega)]; exact p4 j hj, fun j hj => ?_⟩, fun rec => ?_⟩
    · by_cases e1 : j = i
      · rw [me_ii rfl (by omega), show 6 * d + 3 * w + i + 1 = 6 * d + 3 * w + (i + 1) by omega, p5 (i + 1) (by omega)]
        congr 2
        rw [if_neg (by omega), if_pos (by omega), e1]
      · rw [me_in (by omega), p5 j hj]
        congr 2
        by_cases e2 : p ≤ j ∧ j < i
        · rw [if_pos e2, if_pos (by omega)]
        · rw [if_neg e2, if_neg (by omega)]
    · unfold lb_N_takeOff_27
      rw [i2, nI_add, ea1, ea1, if_pos (ri (show 2 * d + w < 20 by omega) (by decide)), if_pos (ri (show 6 * d + 3 * w + i + 1 < 60 by omega) (by decide)), if_pos (ri (show 6 * d + 3 * w + i < 60 by omega) (by decide)), fe_k, ev_c (show 2 * d + w < 2 ^ 31 by omega), ev_c (show 6 * d + 3 * w + i < 2 ^ 31 by omega), ev_c (show 6 * d + 3 * w + i + 1 < 2 ^ 31 by omega), p2, if_neg (nI_ge hi (by omega))]) (s - p) p 64 (rd_iU N 19 (2 * d + w) (nI s)) (by omega) ⟨Nat.le_refl _, fun _ _ => rfl, me_ii rfl rfl, by rw [me_ic (by omega)], fun j _ => by rw [me_ic (by omega)], fun j _ => by rw [me_ic (by omega), if_neg (by omega)]⟩ (by omega)
  refine ⟨N', e1.trans ?_, fun c h1 h2 => by rw [p1 c h1, me_ic h2], p1 19 (by omega), p3, p4, fun i hi => ?_, fun j hj => ⟨_, ?_, p5 j hj⟩⟩
  · unfold lb_N_takeOff_27
    rw [i2, if_pos (ri (show 2 * d + w < 20 by omega) (by decide)), if_pos (by rw [ev_c (by omega), p2]; exact nI_le (Nat.le_refl _) (by omega))]
  · rw [p5 i (by omega)]
    congr 2
    by_cases e2 : i < p
    · rw [if_pos e2, if_neg (by omega)]
    · rw [if_neg e2, if_pos (by omega)]
  · split <;> omega
