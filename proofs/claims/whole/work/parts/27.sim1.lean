/-! the calls, one by one -/
theorem qR.pr {u e : Nat} {K K' N N' : rd_M} (h : qR u e K N) (hK : ∀ c, c ≠ 1 → K' c = K c) (hN : ∀ c, c ≠ 1 → N' c = N c) (hP : qP K' N') : qR u e K' N' := by
  obtain ⟨h0, ⟨t, t1, t2, t3⟩, h2, h3, h4, h5, h6, h7, h8⟩ := h
  have e0 := hN 0 (by omega)
  exact ⟨h0, ⟨t, t1, by rw [hK 0 (by omega)]; exact t2, by rw [e0]; exact t3⟩, hP, fun x hx => (h3 x hx).cg (Nat.le_refl _) (hK _ (by omega)) (hK _ (by omega)) (hK _ (by omega)) (by rw [hN 2 (by omega)]) (fun k _ => by rw [hN 3 (by omega)]) (by rw [hN 4 (by omega)]) (fun i _ => by rw [hN 5 (by omega)]), h4.cg (fun c _ _ => hK c (by omega)) (by rw [e0]) (fun i _ => by rw [hN 6 (by omega)]), h5.cg (fun c _ _ => hK c (by omega)) (by rw [e0]) (fun i _ => ⟨by rw [hN 7 (by omega)], by rw [hN 8 (by omega)], by rw [hN 9 (by omega)]⟩), fun d hd w hw => by rw [hK _ (by omega)]; exact h6 d hd w hw, ⟨fun j hj => by rw [hN 19 (by omega)]; exact h7.1 j hj, fun j hj => by rw [hN 18 (by omega)]; exact h7.2 j hj⟩, fun d hd hne => (h8 d hd hne).cg (fun c _ _ => hK c (by omega)) (fun c j ho => by rw [hN c (by unfold qO at ho; omega)]; exact ⟨rfl, rfl⟩)⟩
theorem h10 : ¬ (1 : Int32) = 0 := by decide
theorem f_inb {β : Type} {M : rd_M} {p a b : Int32} {X Y : Option β} : ((f_N_in M p a b).bind fun r => if r = 0 then X else Y) = if a ≤ p ∧ p ≤ b then Y else X := by
  rw [f_in, fe_bind]
  by_cases h : a ≤ p ∧ p ≤ b
  · simp only [if_pos h, if_neg h10]
  · simp only [if_neg h, if_true]
theorem f_rrb {β : Type} {M : rd_M} {p a b : Int32} {F : Option (String ⊕ β)} : (rd_b (f_K_requireRange M p a b) fun _ => F) = if a ≤ p ∧ p ≤ b then F else some (.inl "java/lang/IllegalArgumentException") := by
  rw [f_rr]
  by_cases h : a ≤ p ∧ p ≤ b
  · simp only [if_pos h, fe_br]
  · simp only [if_neg h, fe_bl]
theorem f_regb {β : Type} {M : rd_M} {p : Int32} {F : Option (String ⊕ β)} : (rd_b (f_K_requireRegistrar M p) fun _ => F) = if 0 ≤ p ∧ p ≤ 3 then F else some (.inl "java/lang/IllegalArgumentException") := by
  rw [f_reg]
  by_cases h : 0 ≤ p ∧ p ≤ 3
  · simp only [if_pos h, fe_br]
  · simp only [if_neg h, fe_bl]
theorem f_namb {β : Type} {M : rd_M} {p : Int32} {F : Option (String ⊕ β)} : (rd_b (f_K_requireName M p) fun _ => F) = if 0 ≤ p ∧ p ≤ 9 then F else some (.inl "java/lang/IllegalArgumentException") := by
  rw [f_nam]
  by_cases h : 0 ≤ p ∧ p ≤ 9
  · simp only [if_pos h, fe_br]
  · simp only [if_neg h, fe_bl]
def qF (a b : UInt64) : Prop := ∃ i, fq_D i a ∧ fq_D i b
theorem am_long (v : Int32) : ∃ w : Int64, w.toInt = 8 * v.toInt := by
  have h1 := v.toInt_lt
  have h2 := v.le_toInt
  exact ⟨Int64.ofInt (8 * v.toInt), Int64.toInt_ofInt_of_le (by omega) (by omega)⟩
theorem sim_price {u : Nat} {K N : rd_M} (h : qR u 10 K N) (p1 v : Int32) : qS Eq u K (f_K_price K p1 (FP.dmul (FP.i2d v) 4593671619917905920)) (f_N_price N p1 (FP.dmul (FP.i2d v) 4593671619917905920)) := by
  have hA := fq_amount v
  obtain ⟨w, hw⟩ := am_long v
  generalize FP.dmul (FP.i2d v) 4593671619917905920 = A at hA ⊢
  have hv := v.toInt_lt
  have hv2 := v.le_toInt
  have hl := fq_long (v := w) (a := A) (by rw [hw]; exact hA) (by rw [hw]; omega)
  unfold f_K_price f_N_price f_K_requireAmount
  simp only [f_rrb, f_inb, cv_lt hA fq_zero, cv_le hA fq_1000, f_fail, f_give, fe_bind]
  by_cases h1 : 0 ≤ p1 ∧ p1 ≤ 3
  · simp only [if_pos h1]
    by_cases h2 : 8 * v.toInt < 0
    · rw [if_pos h2, if_pos h2]; exact qS_1 h
    · rw [if_neg h2, if_neg h2]
      by_cases h3 : 8 * v.toInt ≤ 64000
      · obtain ⟨r, hr, rfl⟩ := rg_of (n := 3) (by decide) h1
        rw [if_pos h3, if_pos h3, fe_br, if_pos (ri (show r < 4 by omega) (by decide)), if_pos (nn hl.1), if_pos (ri (show r < 4 by omega) (by decide)), fe_k, fe_k, hl.2, ev_c (by omega)]
        refine qS_0 rfl (h.pr (fun c hc => me_dc hc) (fun c hc => me_lc hc) (fun k hk => ?_))
        by_cases e1 : k = r
        · rw [me_ll rfl e1, me_dd rfl e1, hw]
          exact ⟨hA, v.toInt.toNat, by omega, by omega⟩
        · rw [me_ln (by omega), me_dn (by omega)]
          exact h.2.2.1 k hk
      · rw [if_neg h3, if_neg h3]; exact qS_1 h
  · simp only [if_neg h1]; exact qS_1 h
theorem sim_deposit {u : Nat} {K N : rd_M} (h : qR u 10 K N) (hu : u < 400000) (p1 v : Int32) : qS qF (u + 1) K (f_K_deposit K p1 (FP.dmul (FP.i2d v) 4593671619917905920)) (f_N_deposit N p1 (FP.dmul (FP.i2d v) 4593671619917905920)) := by
  have hA := fq_amount v
  have h' : qR (u + 1) 10 K N := h.up (by omega) (by omega)
  obtain ⟨w, hw⟩ := am_long v
  generalize FP.dmul (FP.i2d v) 4593671619917905920 = A at hA ⊢
  have hv := v.toInt_lt
  have hv2 := v.le_toInt
  have hl := fq_long (v := w) (a := A) (by rw [hw]; exact hA) (by rw [hw]; omega)
  unfold f_K_deposit f_N_deposit f_K_requireAmount f_K_requireAboveZero
  simp only [f_regb, f_inb, cv_lt hA fq_zero, cv_le hA fq_1000, cv_le hA fq_zero, cv_gt hA fq_zero, f_fail, f_give, fe_bind]
  by_cases h1 : 0 ≤ p1 ∧ p1 ≤ 3
  · simp only [if_pos h1]
    by_cases h2 : 8 * v.toInt ≤ 0
    · rw [if_pos h2]
      by_cases h3 : 8 * v.toInt < 0
      · rw [if_pos h3]; exact qS_1 h'
      · rw [if_neg h3, if_pos (by omega), fe_br, if_neg (by omega)]; exact qS_1 h'
    · rw [if_neg h2, if_neg (by omega)]
      by_cases h3 : 8 * v.toInt ≤ 64000
      · obtain ⟨r, hr, rfl⟩ := rg_of (n := 3) (by decide) h1
        have hr4 : r < 4 := by omega
        obtain ⟨⟨a1, a2⟩, a3, cn, c1, c2, c3, c4⟩ := h.2.2.2.1 r hr4
        have hb1 : ((N 2).2.1 r).toInt.natAbs ≤ 400000 * 1000000 := Nat.le_trans a2 (Nat.mul_le_mul_right _ (by omega))
        have s1 : ((N 2).2.1 r + w).toInt = ((N 2).2.1 r).toInt + 8 * v.toInt := by rw [nu_add (by omega) (by omega), hw]
        have f1 := fq_add a1 hA (by omega)
        have f2 := fq_shown (v := (N 2).2.1 r + w) (by omega)
        have h4 : 0 < 8 * v.toInt := by omega
        simp only [if_pos h3, if_pos h4, fe_br, if_pos (ri hr4 (show 4 < 2 ^ 31 by decide)), ev_c (show r < 2 ^ 31 by omega), if_pos (nn f1), if_pos (nn hl.1), fe_k, hl.2, f_N_shown, me_dd rfl rfl, me_ll rfl rfl, if_pos (nn f2), fe_bind]
        refine qS_0 ⟨_, f1, by rw [← s1]; exact f2⟩ (h.ac (by omega) (by omega) hr4 (fun c hc => me_dc (by omega)) (fun c hc => me_lc (by omega)) (fun x hx hne => ⟨me_ln (by omega), fun k _ => by rw [me_lc (by omega)], by rw [me_li], fun i _ => by rw [me_li]⟩) ⟨⟨?_, ?_⟩, fun k hk => ?_, cn, c1, by rw [me_di]; exact c2, by rw [me_li]; exact c3, fun i hi => by rw [me_di, me_li]; exact c4 i hi⟩)
        · rw [me_ll rfl rfl, me_dd rfl rfl, s1]; exact f1
        · rw [me_ll rfl rfl, s1]
          have : (u + 1) * 1000000 = u * 1000000 + 1000000 := Nat.succ_mul u 1000000
          omega
        · rw [me_lc (by omega), me_dc (by omega)]
          exact ⟨(a3 k hk).1, Nat.le_trans (a3 k hk).2 (Nat.mul_le_mul_right _ (by omega))⟩
      · rw [if_neg h3, if_neg h3]; exact qS_1 h'
  · simp only [if_neg h1]; exact qS_1 h'
theorem sim_contact {u : Nat} {K N : rd_M} (h : qR u 10 K N) (p1 : Int32) : qS Eq u K (f_K_contact K p1) (f_N_contact N p1) := by
  obtain ⟨c, c1, c2, c3, c4⟩ := h.2.2.2.2.1
  unfold f_K_contact f_N_contact f_K_requireShelfRoom f_S_make
  simp only [f_regb, f_inb, f_fail, f_give, fe_bind]
  by_cases h1 : 0 ≤ p1 ∧ p1 ≤ 3
  · simp only [if_pos h1]
    rw [c2, c3]
    by_cases h8 : c = 8
    · subst h8
      simp only [if_neg (show ¬ nI 8 < 8 by decide), if_pos (show nI 8 = 8 from rfl)]; exact qS_4 h
    · have hc : c < 8 := by omega
      obtain ⟨r, hr, rfl⟩ := rg_of (n := 3) (by decide) h1
      have g1 : nI c < 8 := by rw [elt8 (by omega)]; exact hc
      have g2 : ¬ nI c = 8 := by rw [eq8 (by omega)]; exact h8
      simp only [if_pos g1, if_neg g2, fe_br, if_pos (ri hc (show 8 < 2 ^ 31 by decide)), ev_c (show c < 2 ^ 31 by omega), fe_k, fe_bind]
      have m5 : ((rd_iU (rd_iU (rd_iU (rd_iU K (18 + 10 * 0 + c) 0 1) (18 + 10 * 0 + c) 1 (nI r)) (18 + 10 * 0 + c) 2 (-1)) (18 + 10 * 0 + c) 3 0) (16 + 10 * 0)).1 1 = nI c := by rw [me_ic (by omega), me_ic (by omega), me_ic (by omega), me_ic (by omega)]; exact c2
      have n5 : ((rd_iU N 6 c (nI r)) 0).1 7 = nI c := by rw [me_ic (by omega)]; exact c3
      rw [m5, n5, ea1, me_ii rfl rfl, me_ii rfl rfl]
      refine qS_0 rfl (h.co (fun x hx => ?_) (fun x h0 h6 => by rw [me_ic h0, me_ic h6]) (by rw [me_in (by omega), me_ic (by omega)]) (by rw [me_in (by omega), me_ic (by omega)]) ⟨c + 1, by omega, me_ii rfl rfl, me_ii rfl rfl, fun i hi => ?_⟩)
      · rw [me_ic (by omega), me_ic (by omega), me_ic (by omega), me_ic (by omega), me_ic (by omega)]
      · rw [me_ic (show 18 + 10 * 0 + i ≠ 16 + 10 * 0 by omega), me_ic (show 6 ≠ 0 by decide)]
        by_cases e1 : i = c
        · subst e1
          rw [me_ii rfl rfl]
          refine Or.inr ⟨?_, ?_, r, by omega, rfl⟩
          · rw [me_in (by omega), me_in (by omega), me_in (by omega), me_ii rfl rfl]
          · rw [me_in (by omega), me_in (by omega), me_ii rfl rfl]
        · rw [me_ic (by omega), me_ic (by omega), me_ic (by omega), me_ic (by omega), me_in (by omega)]
          exact c4 i (by omega)
  · simp only [if_neg h1]; exact qS_1 h
theorem sim_message {u : Nat} {K N : rd_M} (h : qR u 10 K N) (p1 : Int32) : qS Eq u K (qpure K (f_K_message K p1)) (f_N_message N p1) := by
  unfold f_K_message f_N_message f_K_requireMessage
  simp only [f_regb, f_inb, f_fail, f_give, fe_bind]
  by_cases h1 : 0 ≤ p1 ∧ p1 ≤ 3
  · obtain ⟨r, hr, rfl⟩ := rg_of (n := 3) (by decide) h1
    have hr4 : r < 4 := by omega
    obtain ⟨-, -, cn, c1, c2, c3, c4⟩ := h.2.2.2.1 r hr4
    simp only [if_pos h1]
    simp only [if_pos (ri hr4 (show 4 < 2 ^ 31 by decide)), ev_c (show r < 2 ^ 31 by omega), c2, c3]
    by_cases e1 : cn = 0
    · subst e1
      simp only [if_pos nI_0]; exact qS_2 h
    · have hn : ¬ nI cn = 0 := by rw [eq0 (by omega)]; exact e1
      simp only [if_neg hn, fe_br, em12, if_pos (ri (show 12 * r < 48 by omega) (show 48 < 2 ^ 31 by decide)), ev_c (show 12 * r < 2 ^ 31 by omega)]
      refine qS_0 ?_ h
      exact c4 0 (by omega)
  · simp only [if_neg h1]; exact qS_1 h
theorem sim_acknowledge {u : Nat} {K N : rd_M} (h : qR u 10 K N) (p1 : Int32) : qS Eq u K (f_K_acknowledge K p1) (f_N_acknowledge N p1) := by
  unfold f_K_acknowledge f_N_acknowledge f_K_requireMessage
  simp only [f_regb, f_inb, f_fail, f_give, fe_bind]
  by_cases h1 : 0 ≤ p1 ∧ p1 ≤ 3
  · obtain ⟨r, hr, rfl⟩ := rg_of (n := 3) (by decide) h1
    have hr4 : r < 4 := by omega
    obtain ⟨-, -, cn, c1, c2, c3, c4⟩ := h.2.2.2.1 r hr4
    simp only [if_pos h1]
    simp only [if_pos (ri hr4 (show 4 < 2 ^ 31 by decide)), ev_c (show r < 2 ^ 31 by omega), c2, c3]
    by_cases e1 : cn = 0
    · subst e1
      simp only [if_pos nI_0]; exact qS_2 h
    · have hn : ¬ nI cn = 0 := by rw [eq0 (by omega)]; exact e1
      obtain ⟨m, rfl⟩ : ∃ m, cn = m + 1 := ⟨cn - 1, by omega⟩
      obtain ⟨K', N', d1, d2, d3, d4, d5, -, -⟩ := dropB h hr4 (by omega) c2 c3
      simp only [if_neg hn, fe_br, d1, fe_bind, d2, d4, d5]
      exact qS_0 rfl d3
  · simp only [if_neg h1]; exact qS_1 h
theorem sim_balance {u : Nat} {K N : rd_M} (h : qR u 10 K N) (p1 : Int32) : qS qF u K (qpure K (f_K_balance K p1)) (f_N_balance N p1) := by
  unfold f_K_balance f_N_balance
  simp only [f_regb, f_inb, f_fail, fe_bind]
  by_cases h1 : 0 ≤ p1 ∧ p1 ≤ 3
  · obtain ⟨r, hr, rfl⟩ := rg_of (n := 3) (by decide) h1
    have hr4 : r < 4 := by omega
    obtain ⟨⟨a1, a2⟩, -⟩ := h.2.2.2.1 r hr4
    have hb1 : ((N 2).2.1 r).toInt.natAbs ≤ 400000 * 1000000 := Nat.le_trans a2 (Nat.mul_le_mul_right _ h.1)
    have f2 := fq_shown (v := (N 2).2.1 r) (by omega)
    simp only [if_pos h1]
    rw [if_pos (ri hr4 (by decide)), if_pos (ri hr4 (by decide)), ev_c (show r < 2 ^ 31 by omega)]
    unfold f_N_shown
    rw [fe_k, if_pos (nn f2), fe_bind]
    exact qS_0 ⟨_, a1, f2⟩ h
  · simp only [if_neg h1]; exact qS_1 h
theorem sim_paid {u : Nat} {K N : rd_M} (h : qR u 10 K N) (p1 p2 : Int32) : qS qF u K (qpure K (f_K_paid K p1 p2)) (f_N_paid N p1 p2) := by
  unfold f_K_paid f_N_paid
  simp only [f_regb, f_rrb, f_inb, f_fail, fe_bind]
  by_cases h1 : 0 ≤ p1 ∧ p1 ≤ 3
  · obtain ⟨r, hr, rfl⟩ := rg_of (n := 3) (by decide) h1
    have hr4 : r < 4 := by omega
    simp only [if_pos h1]
    by_cases h2 : 0 ≤ p2 ∧ p2 ≤ 3
    · obtain ⟨k, hk, rfl⟩ := rg_of (n := 3) (by decide) h2
      have hk4 : k < 4 := by omega
      obtain ⟨-, a3, -⟩ := h.2.2.2.1 r hr4
      have hb1 : ((N 3).2.1 (4 * r + k)).toInt.natAbs ≤ 400000 * 1000000 := Nat.le_trans (a3 k hk4).2 (Nat.mul_le_mul_right _ h.1)
      have f2 := fq_shown (v := (N 3).2.1 (4 * r + k)) (by omega)
      simp only [if_pos h2]
      rw [em4, nI_add, if_pos (ri hr4 (by decide)), if_pos (ri hk4 (by decide)), if_pos (ri (show 4 * r + k < 16 by omega) (by decide)), ev_c (show r < 2 ^ 31 by omega), ev_c (show k < 2 ^ 31 by omega), ev_c (show 4 * r + k < 2 ^ 31 by omega)]
      unfold f_N_shown
      rw [fe_k, if_pos (nn f2), fe_bind]
      exact qS_0 ⟨_, (a3 k hk4).1, f2⟩ h
    · simp only [if_neg h2]; exact qS_1 h
  · simp only [if_neg h1]; exact qS_1 h
