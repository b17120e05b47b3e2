/-! graces, domain -/
theorem gonK {K : rd_M} {d k : Nat} {kk p : Int32} (hk : kk = nI k) (h : k < 5) : f_D_graceIsOn K d kk p = some (if (K (44 + 8 * d)).1 k < p then 0 else 1) := by
  unfold f_D_graceIsOn
  rw [hk, if_pos (ri h (by decide)), fe_k, ev_c (by omega)]
theorem gonN {N : rd_M} {d k : Nat} {kk : Int32} (hk : kk = nI k) (h : k < 5) (hd : d < 10) : f_N_graceOn N (nI d) kk = some (if (N 21).1 (5 * d + k) < (N 0).1 1 then 0 else 1) := by
  unfold f_N_graceOn
  rw [hk, em5, nI_add, if_pos (ri (show 5 * d + k < 50 by omega) (by decide)), fe_k, ev_c (by omega)]
theorem m1lt {t : Nat} (h : t < 2 ^ 31) : (-1 : Int32) < nI t := nle_lt (fun z => by
  have e1 := Int32.le_iff_toInt_le.mp z
  rw [nI_toInt h] at e1
  have e2 : (-1 : Int32).toInt = -1 := rfl
  omega)
theorem gsK {K : rd_M} {d : Nat} {p : Int32} : f_D_gracesOn K d p = some ((((((0 : Int32) + (if (K (44 + 8 * d)).1 0 < p then 0 else 1)) + (if (K (44 + 8 * d)).1 1 < p then 0 else 2)) + (if (K (44 + 8 * d)).1 2 < p then 0 else 4)) + (if (K (44 + 8 * d)).1 3 < p then 0 else 8)) + (if (K (44 + 8 * d)).1 4 < p then 0 else 16)) := by
  unfold f_D_gracesOn
  have st : ∀ i, i < 5 → ∀ a rec, lb_D_gracesOn_4 K d p (fun _ w => some w) rec (nI i) a = rec (nI (i + 1)) (a + (if (K (44 + 8 * d)).1 i < p then (0 : Int32) else ((1 : Int32) <<< (nI i &&& 31)))) := fun i hi a rec => by
    unfold lb_D_gracesOn_4
    rw [if_neg (nl5 hi), gonK rfl hi, fe_bind, ea1]
    by_cases g : (K (44 + 8 * d)).1 i < p
    · simp only [if_pos g, if_true, Int32.add_zero]
    · simp only [if_neg g, if_neg h10]
  have s5 : ∀ a rec, lb_D_gracesOn_4 K d p (fun _ w => some w) rec (nI 5) a = some a := fun a rec => by
    unfold lb_D_gracesOn_4
    rw [if_pos (by decide)]
  rw [show rd_it (fun _ _ => none) (lb_D_gracesOn_4 K d p fun _ w => some w) 64 0 0 = rd_it (fun _ _ => none) (lb_D_gracesOn_4 K d p fun _ w => some w) (58 + 1 + 1 + 1 + 1 + 1 + 1) (nI 0) 0 from rfl]
  rw [rd_it_s, st 0 (by omega), rd_it_s, st 1 (by omega), rd_it_s, st 2 (by omega), rd_it_s, st 3 (by omega), rd_it_s, st 4 (by omega), rd_it_s, s5]
  rfl
theorem atB {K N : rd_M} {d w k : Nat} (hk : k < 3) {p : Int32} (hp : p = nI k) (h : qW d w K N) : ∃ s, s ≤ 3 ∧ (N 19).1 (2 * d + w) = nI s ∧ (K (39 + 8 * d + 2 * w)).1 1 = nI s ∧ f_R_at K d w p = some (if s ≤ k then -1 else (N 18).1 (6 * d + 3 * w + k)) := by
  obtain ⟨s, s1, s2, s3, s4⟩ := h
  refine ⟨s, s1, s3, s2, ?_⟩
  unfold f_R_at
  rw [hp, if_neg (nI_pos (by omega)), s2, if_pos (ri hk (by decide)), ev_c (by omega)]
  by_cases e : s ≤ k
  · rw [if_pos (nI_le e (by omega)), if_pos e]
  · rw [if_neg (nI_ge (by omega) (by omega)), if_neg e, s4 k (by omega)]
theorem sim_domain {u : Nat} {K N : rd_M} (h : qR u 10 K N) (p1 p2 : Int32) : qS Eq u K (qpure K (f_K_domain K p1 p2)) (f_N_domain N p1 p2) := by
  obtain ⟨t, t1, t2, t3⟩ := h.2.1
  have ht : t < 2 ^ 31 := by have := h.1; omega
  unfold f_K_domain f_N_domain
  simp only [f_namb, f_rrb, f_inb, f_fail, f_give, fe_bind, fe_k]
  by_cases h1 : 0 ≤ p1 ∧ p1 ≤ 9
  · by_cases h2 : 0 ≤ p2 ∧ p2 ≤ 13
    · obtain ⟨d, hd, rfl⟩ := rg_of (n := 9) (by decide) h1
      have hd : d < 10 := by omega
      simp only [if_pos h1, if_pos h2, kdtb hd, ndmb hd, if_pos (ri hd (show 10 < 2 ^ 31 by decide)), ev_c (show d < 2 ^ 31 by omega), gonN (show (0 : Int32) = nI 0 from rfl) (show 0 < 5 by omega) hd, gonN (show (1 : Int32) = nI 1 from rfl) (show 1 < 5 by omega) hd, gonN (show (2 : Int32) = nI 2 from rfl) (show 2 < 5 by omega) hd, gonN (show (4 : Int32) = nI 4 from rfl) (show 4 < 5 by omega) hd, gsK, fe_bind]
      rcases h.dm hd with ⟨a, b⟩ | ⟨a, ⟨o, o1, o2, o3⟩, b1, b2, b3, b4, b5, b6, b7, b8⟩
      · simp only [if_pos a, b, if_neg im1]; exact qS_2 h
      · obtain ⟨w1, w2⟩ := wnt b6
        have w70 := b7 0 (by omega)
        have w71 := b7 1 (by omega)
        obtain ⟨z, hz, rfl⟩ := rg_of (n := 13) (by decide) h2
        simp only [a, o3, if_neg h10, if_pos (nI_pos' (show o < 2 ^ 31 by omega))]
        have i20 : (2 * nI d) = nI (2 * d + 0) := em2
        have i21 : (2 * nI d) + 1 = nI (2 * d + 1) := by rw [em2, ea1]
        have hz : z < 14 := by omega
        rcases (show z = 0 ∨ z = 1 ∨ z = 2 ∨ z = 3 ∨ z = 4 ∨ z = 5 ∨ z = 6 ∨ z = 7 ∨ z = 8 ∨ z = 9 ∨ z = 10 ∨ z = 11 ∨ z = 12 ∨ z = 13 by omega) with rfl | rfl | rfl | rfl | rfl | rfl | rfl | rfl | rfl | rfl | rfl | rfl | rfl | rfl

        · simp only [if_pos (show nI 0 = 0 from rfl), if_pos (show nI 0 < 8 by decide), o2]; exact qS_0 rfl h
        · simp only [if_neg (show ¬ nI 1 = 0 by decide), if_pos (show nI 1 = 1 from rfl), if_pos (show nI 1 < 8 by decide), b1]; exact qS_0 rfl h
        · simp only [if_neg (show ¬ nI 2 = 0 by decide), if_neg (show ¬ nI 2 = 1 by decide), if_pos (show nI 2 = 2 from rfl), if_pos (show nI 2 < 8 by decide), b3]; exact qS_0 rfl h
        · simp only [if_neg (show ¬ nI 3 = 0 by decide), if_neg (show ¬ nI 3 = 1 by decide), if_neg (show ¬ nI 3 = 2 by decide), if_pos (show nI 3 = 3 from rfl), if_pos (show nI 3 < 8 by decide), b4]; exact qS_0 rfl h
        · obtain ⟨s, s1, s2, s3, -⟩ := w70
          simp only [if_neg (show ¬ nI 4 = 0 by decide), if_neg (show ¬ nI 4 = 1 by decide), if_neg (show ¬ nI 4 = 2 by decide), if_neg (show ¬ nI 4 = 3 by decide), if_pos (show nI 4 = 4 from rfl), if_pos (show nI 4 < 8 by decide), s2]
          have g : rd_in (2 * nI d) 20 := by rw [i20]; exact ri (by omega) (by decide)
          have g2 : (2 * nI d).toNatClampNeg = 2 * d + 0 := by rw [i20]; exact ev_c (by omega)
          simp only [if_pos g, g2, s3]; exact qS_0 rfl h
        · obtain ⟨s, s1, s2, s3, -⟩ := w71
          simp only [if_neg (show ¬ nI 5 = 0 by decide), if_neg (show ¬ nI 5 = 1 by decide), if_neg (show ¬ nI 5 = 2 by decide), if_neg (show ¬ nI 5 = 3 by decide), if_neg (show ¬ nI 5 = 4 by decide), if_pos (show nI 5 = 5 from rfl), if_pos (show nI 5 < 8 by decide), s2]
          have g : rd_in ((2 * nI d) + 1) 20 := by rw [i21]; exact ri (by omega) (by decide)
          have g2 : ((2 * nI d) + 1).toNatClampNeg = 2 * d + 1 := by rw [i21]; exact ev_c (by omega)
          simp only [if_pos g, g2, s3]; exact qS_0 rfl h
        · simp only [if_neg (show ¬ nI 6 = 0 by decide), if_neg (show ¬ nI 6 = 1 by decide), if_neg (show ¬ nI 6 = 2 by decide), if_neg (show ¬ nI 6 = 3 by decide), if_neg (show ¬ nI 6 = 4 by decide), if_neg (show ¬ nI 6 = 5 by decide), if_pos (show nI 6 = 6 from rfl), if_pos (show nI 6 < 8 by decide), w1]; exact qS_0 rfl h
        · simp only [if_neg (show ¬ nI 7 = 0 by decide), if_neg (show ¬ nI 7 = 1 by decide), if_neg (show ¬ nI 7 = 2 by decide), if_neg (show ¬ nI 7 = 3 by decide), if_neg (show ¬ nI 7 = 4 by decide), if_neg (show ¬ nI 7 = 5 by decide), if_neg (show ¬ nI 7 = 6 by decide), if_pos (show nI 7 = 7 from rfl), if_pos (show nI 7 < 8 by decide), if_neg (show ¬ nI 7 = 6 by decide)]
          have e0 : (K (44 + 8 * d)).1 0 = (N 21).1 (5 * d + 0) := (b8 0 (by omega)).1
          have e1 : (K (44 + 8 * d)).1 1 = (N 21).1 (5 * d + 1) := (b8 1 (by omega)).1
          have e2 : (K (44 + 8 * d)).1 2 = (N 21).1 (5 * d + 2) := (b8 2 (by omega)).1
          have e4 : (K (44 + 8 * d)).1 4 = (N 21).1 (5 * d + 4) := (b8 4 (by omega)).1
          have e3 : (K (44 + 8 * d)).1 3 = -1 := by
            obtain ⟨x1, x2⟩ := b8 3 (by omega)
            rcases x2 with x2 | ⟨x2, -⟩
            · rw [x1, x2]
            · exact absurd rfl x2
          simp only [e0, e1, e2, e3, e4, t2, t3, if_pos (m1lt ht)]
          refine qS_0 ?_ h
          by_cases c0 : (N 21).1 (5 * d + 0) < nI t <;> by_cases c1 : (N 21).1 (5 * d + 1) < nI t <;> by_cases c2 : (N 21).1 (5 * d + 2) < nI t <;> by_cases c4 : (N 21).1 (5 * d + 4) < nI t <;> simp only [c0, c1, c2, c4, if_true, if_false, if_neg h10] <;> rfl
        · obtain ⟨s, s1, s3, s2, s4⟩ := atB (k := 0) (p := nI 8 - 8) (by omega) rfl w70
          simp only [if_neg (show ¬ nI 8 = 0 by decide), if_neg (show ¬ nI 8 = 1 by decide), if_neg (show ¬ nI 8 = 2 by decide), if_neg (show ¬ nI 8 = 3 by decide), if_neg (show ¬ nI 8 = 4 by decide), if_neg (show ¬ nI 8 = 5 by decide), if_neg (show ¬ nI 8 = 6 by decide), if_neg (show ¬ nI 8 = 7 by decide), if_pos (show nI 8 = 8 from rfl), if_neg (show ¬ nI 8 < 8 by decide), s4, fe_bind]
          have j1 : (2 * nI d) + ((nI 8 - 8) / 3) = nI (2 * d + 0) := by rw [show (nI 8 - 8) / 3 = nI 0 from rfl, em2, nI_add]
          have j2 : (nI 8 - 8) - (nI 8 - 8) / 3 * 3 = nI 0 := rfl
          have j3 : ((6 * nI d) + (3 * ((nI 8 - 8) / 3))) + nI 0 = nI (6 * d + 3 * 0 + 0) := by rw [show (nI 8 - 8) / 3 = nI 0 from rfl, em6, em3, nI_add, nI_add]
          simp only [j1, j2, j3, if_pos (ri (show 2 * d + 0 < 20 by omega) (show 20 < 2 ^ 31 by decide)), if_pos (ri (show 6 * d + 3 * 0 + 0 < 60 by omega) (show 60 < 2 ^ 31 by decide)), ev_c (show 2 * d + 0 < 2 ^ 31 by omega), ev_c (show 6 * d + 3 * 0 + 0 < 2 ^ 31 by omega), s3, eLL (show s < 2 ^ 31 by omega) (show 0 < 2 ^ 31 by omega)]
          by_cases g : s ≤ 0
          · simp only [if_pos g]; exact qS_0 rfl h
          · simp only [if_neg g]; exact qS_0 rfl h
        · obtain ⟨s, s1, s3, s2, s4⟩ := atB (k := 1) (p := nI 9 - 8) (by omega) rfl w70
          simp only [if_neg (show ¬ nI 9 = 0 by decide), if_neg (show ¬ nI 9 = 1 by decide), if_neg (show ¬ nI 9 = 2 by decide), if_neg (show ¬ nI 9 = 3 by decide), if_neg (show ¬ nI 9 = 4 by decide), if_neg (show ¬ nI 9 = 5 by decide), if_neg (show ¬ nI 9 = 6 by decide), if_neg (show ¬ nI 9 = 7 by decide), if_neg (show ¬ nI 9 = 8 by decide), if_pos (show nI 9 = 9 from rfl), if_neg (show ¬ nI 9 < 8 by decide), s4, fe_bind]
          have j1 : (2 * nI d) + ((nI 9 - 8) / 3) = nI (2 * d + 0) := by rw [show (nI 9 - 8) / 3 = nI 0 from rfl, em2, nI_add]
          have j2 : (nI 9 - 8) - (nI 9 - 8) / 3 * 3 = nI 1 := rfl
          have j3 : ((6 * nI d) + (3 * ((nI 9 - 8) / 3))) + nI 1 = nI (6 * d + 3 * 0 + 1) := by rw [show (nI 9 - 8) / 3 = nI 0 from rfl, em6, em3, nI_add, nI_add]
          simp only [j1, j2, j3, if_pos (ri (show 2 * d + 0 < 20 by omega) (show 20 < 2 ^ 31 by decide)), if_pos (ri (show 6 * d + 3 * 0 + 1 < 60 by omega) (show 60 < 2 ^ 31 by decide)), ev_c (show 2 * d + 0 < 2 ^ 31 by omega), ev_c (show 6 * d + 3 * 0 + 1 < 2 ^ 31 by omega), s3, eLL (show s < 2 ^ 31 by omega) (show 1 < 2 ^ 31 by omega)]
          by_cases g : s ≤ 1
          · simp only [if_pos g]; exact qS_0 rfl h
          · simp only [if_neg g]; exact qS_0 rfl h
        · obtain ⟨s, s1, s3, s2, s4⟩ := atB (k := 2) (p := nI 10 - 8) (by omega) rfl w70
          simp only [if_neg (show ¬ nI 10 = 0 by decide), if_neg (show ¬ nI 10 = 1 by decide), if_neg (show ¬ nI 10 = 2 by decide), if_neg (show ¬ nI 10 = 3 by decide), if_neg (show ¬ nI 10 = 4 by decide), if_neg (show ¬ nI 10 = 5 by decide), if_neg (show ¬ nI 10 = 6 by decide), if_neg (show ¬ nI 10 = 7 by decide), if_neg (show ¬ nI 10 = 8 by decide), if_neg (show ¬ nI 10 = 9 by decide), if_pos (show nI 10 = 10 from rfl), if_neg (show ¬ nI 10 < 8 by decide), s4, fe_bind]
          have j1 : (2 * nI d) + ((nI 10 - 8) / 3) = nI (2 * d + 0) := by rw [show (nI 10 - 8) / 3 = nI 0 from rfl, em2, nI_add]
          have j2 : (nI 10 - 8) - (nI 10 - 8) / 3 * 3 = nI 2 := rfl
          have j3 : ((6 * nI d) + (3 * ((nI 10 - 8) / 3))) + nI 2 = nI (6 * d + 3 * 0 + 2) := by rw [show (nI 10 - 8) / 3 = nI 0 from rfl, em6, em3, nI_add, nI_add]
          simp only [j1, j2, j3, if_pos (ri (show 2 * d + 0 < 20 by omega) (show 20 < 2 ^ 31 by decide)), if_pos (ri (show 6 * d + 3 * 0 + 2 < 60 by omega) (show 60 < 2 ^ 31 by decide)), ev_c (show 2 * d + 0 < 2 ^ 31 by omega), ev_c (show 6 * d + 3 * 0 + 2 < 2 ^ 31 by omega), s3, eLL (show s < 2 ^ 31 by omega) (show 2 < 2 ^ 31 by omega)]
          by_cases g : s ≤ 2
          · simp only [if_pos g]; exact qS_0 rfl h
          · simp only [if_neg g]; exact qS_0 rfl h
        · obtain ⟨s, s1, s3, s2, s4⟩ := atB (k := 0) (p := nI 11 - 11) (by omega) rfl w71
          simp only [if_neg (show ¬ nI 11 = 0 by decide), if_neg (show ¬ nI 11 = 1 by decide), if_neg (show ¬ nI 11 = 2 by decide), if_neg (show ¬ nI 11 = 3 by decide), if_neg (show ¬ nI 11 = 4 by decide), if_neg (show ¬ nI 11 = 5 by decide), if_neg (show ¬ nI 11 = 6 by decide), if_neg (show ¬ nI 11 = 7 by decide), if_neg (show ¬ nI 11 = 8 by decide), if_neg (show ¬ nI 11 = 9 by decide), if_neg (show ¬ nI 11 = 10 by decide), if_neg (show ¬ nI 11 < 8 by decide), s4, fe_bind]
          have j1 : (2 * nI d) + ((nI 11 - 8) / 3) = nI (2 * d + 1) := by rw [show (nI 11 - 8) / 3 = nI 1 from rfl, em2, nI_add]
          have j2 : (nI 11 - 8) - (nI 11 - 8) / 3 * 3 = nI 0 := rfl
          have j3 : ((6 * nI d) + (3 * ((nI 11 - 8) / 3))) + nI 0 = nI (6 * d + 3 * 1 + 0) := by rw [show (nI 11 - 8) / 3 = nI 1 from rfl, em6, em3, nI_add, nI_add]
          simp only [j1, j2, j3, if_pos (ri (show 2 * d + 1 < 20 by omega) (show 20 < 2 ^ 31 by decide)), if_pos (ri (show 6 * d + 3 * 1 + 0 < 60 by omega) (show 60 < 2 ^ 31 by decide)), ev_c (show 2 * d + 1 < 2 ^ 31 by omega), ev_c (show 6 * d + 3 * 1 + 0 < 2 ^ 31 by omega), s3, eLL (show s < 2 ^ 31 by omega) (show 0 < 2 ^ 31 by omega)]
          by_cases g : s ≤ 0
          · simp only [if_pos g]; exact qS_0 rfl h
          · simp only [if_neg g]; exact qS_0 rfl h
        · obtain ⟨s, s1, s3, s2, s4⟩ := atB (k := 1) (p := nI 12 - 11) (by omega) rfl w71
          simp only [if_neg (show ¬ nI 12 = 0 by decide), if_neg (show ¬ nI 12 = 1 by decide), if_neg (show ¬ nI 12 = 2 by decide), if_neg (show ¬ nI 12 = 3 by decide), if_neg (show ¬ nI 12 = 4 by decide), if_neg (show ¬ nI 12 = 5 by decide), if_neg (show ¬ nI 12 = 6 by decide), if_neg (show ¬ nI 12 = 7 by decide), if_neg (show ¬ nI 12 = 8 by decide), if_neg (show ¬ nI 12 = 9 by decide), if_neg (show ¬ nI 12 = 10 by decide), if_neg (show ¬ nI 12 < 8 by decide), s4, fe_bind]
          have j1 : (2 * nI d) + ((nI 12 - 8) / 3) = nI (2 * d + 1) := by rw [show (nI 12 - 8) / 3 = nI 1 from rfl, em2, nI_add]
          have j2 : (nI 12 - 8) - (nI 12 - 8) / 3 * 3 = nI 1 := rfl
          have j3 : ((6 * nI d) + (3 * ((nI 12 - 8) / 3))) + nI 1 = nI (6 * d + 3 * 1 + 1) := by rw [show (nI 12 - 8) / 3 = nI 1 from rfl, em6, em3, nI_add, nI_add]
          simp only [j1, j2, j3, if_pos (ri (show 2 * d + 1 < 20 by omega) (show 20 < 2 ^ 31 by decide)), if_pos (ri (show 6 * d + 3 * 1 + 1 < 60 by omega) (show 60 < 2 ^ 31 by decide)), ev_c (show 2 * d + 1 < 2 ^ 31 by omega), ev_c (show 6 * d + 3 * 1 + 1 < 2 ^ 31 by omega), s3, eLL (show s < 2 ^ 31 by omega) (show 1 < 2 ^ 31 by omega)]
          by_cases g : s ≤ 1
          · simp only [if_pos g]; exact qS_0 rfl h
          · simp only [if_neg g]; exact qS_0 rfl h
        · obtain ⟨s, s1, s3, s2, s4⟩ := atB (k := 2) (p := nI 13 - 11) (by omega) rfl w71
          simp only [if_neg (show ¬ nI 13 = 0 by decide), if_neg (show ¬ nI 13 = 1 by decide), if_neg (show ¬ nI 13 = 2 by decide), if_neg (show ¬ nI 13 = 3 by decide), if_neg (show ¬ nI 13 = 4 by decide), if_neg (show ¬ nI 13 = 5 by decide), if_neg (show ¬ nI 13 = 6 by decide), if_neg (show ¬ nI 13 = 7 by decide), if_neg (show ¬ nI 13 = 8 by decide), if_neg (show ¬ nI 13 = 9 by decide), if_neg (show ¬ nI 13 = 10 by decide), if_neg (show ¬ nI 13 < 8 by decide), s4, fe_bind]
          have j1 : (2 * nI d) + ((nI 13 - 8) / 3) = nI (2 * d + 1) := by rw [show (nI 13 - 8) / 3 = nI 1 from rfl, em2, nI_add]
          have j2 : (nI 13 - 8) - (nI 13 - 8) / 3 * 3 = nI 2 := rfl
          have j3 : ((6 * nI d) + (3 * ((nI 13 - 8) / 3))) + nI 2 = nI (6 * d + 3 * 1 + 2) := by rw [show (nI 13 - 8) / 3 = nI 1 from rfl, em6, em3, nI_add, nI_add]
          simp only [j1, j2, j3, if_pos (ri (show 2 * d + 1 < 20 by omega) (show 20 < 2 ^ 31 by decide)), if_pos (ri (show 6 * d + 3 * 1 + 2 < 60 by omega) (show 60 < 2 ^ 31 by decide)), ev_c (show 2 * d + 1 < 2 ^ 31 by omega), ev_c (show 6 * d + 3 * 1 + 2 < 2 ^ 31 by omega), s3, eLL (show s < 2 ^ 31 by omega) (show 2 < 2 ^ 31 by omega)]
          by_cases g : s ≤ 2
          · simp only [if_pos g]; exact qS_0 rfl h
          · simp only [if_neg g]; exact qS_0 rfl h
    · simp only [if_pos h1, if_neg h2]; exact qS_1 h
  · simp only [if_neg h1]; exact qS_1 h
