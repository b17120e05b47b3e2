/-! calls on domains -/
theorem kdtb {β : Type} {K : rd_M} {d : Nat} (hd : d < 10) {F : Nat → Option (String ⊕ β)} : rd_b (f_K_domainThere K (nI d)) F = if (K (37 + 8 * d)).1 3 = 0 then some (.inl "java/util/NoSuchElementException") else F d := by
  rw [kdt hd]
  by_cases h : (K (37 + 8 * d)).1 3 = 0
  · simp only [if_pos h, fe_bl]
  · simp only [if_neg h, fe_br]
theorem ndmb {β : Type} {N : rd_M} {d : Nat} (hd : d < 10) {X Y : Option β} : ((f_N_noDomain N (nI d)).bind fun r => if r = 0 then X else Y) = if 0 ≤ (N 10).1 d then X else Y := by
  rw [ndm hd, fe_bind]
  by_cases h : 0 ≤ (N 10).1 d
  · simp only [if_pos h, if_true]
  · simp only [if_neg h, if_neg h10]
theorem ownb {β : Type} {M : rd_M} {a b : Int32} {F : Option (String ⊕ β)} : (rd_b (f_K_requireOwner M a b) fun _ => F) = if a = b then F else some (.inl "java/lang/UnsupportedOperationException") := by
  unfold f_K_requireOwner
  by_cases h : a = b
  · simp only [if_pos h, fe_br]
  · simp only [if_neg h, fe_bl]
theorem stab {β : Type} {K : rd_M} {d : Nat} {a : Int32} {F : Option (String ⊕ β)} : (rd_b (f_K_requireState K d a) fun _ => F) = if (K (37 + 8 * d)).1 8 = a then F else some (.inl "java/lang/UnsupportedOperationException") := by
  unfold f_K_requireState
  by_cases h : (K (37 + 8 * d)).1 8 = a
  · simp only [if_pos h, fe_br]
  · simp only [if_neg h, fe_bl]
theorem unlb {β : Type} {K : rd_M} {d : Nat} {a : Int32} {F : Option (String ⊕ β)} : (rd_b (f_K_requireUnlocked K d a) fun _ => F) = if (K (37 + 8 * d)).1 7 &&& a = 0 then F else some (.inl "java/lang/UnsupportedOperationException") := by
  unfold f_K_requireUnlocked
  by_cases h : (K (37 + 8 * d)).1 7 &&& a = 0
  · simp only [if_pos h, fe_br]
  · simp only [if_neg h, fe_bl]
theorem notb {β : Type} {K : rd_M} {d : Nat} {F : Option (String ⊕ β)} : (rd_b (f_K_requireNoTransfer K d) fun _ => F) = if (K (37 + 8 * d)).1 10 = -1 then F else some (.inl "java/lang/IllegalStateException") := by
  unfold f_K_requireNoTransfer
  by_cases h : (K (37 + 8 * d)).1 10 = -1
  · simp only [if_pos h, fe_br]
  · simp only [if_neg h, fe_bl]
theorem i20 : ¬ (2 : Int32) ≤ 0 := by decide
theorem i30 : ¬ (3 : Int32) ≤ 0 := by decide
theorem i00 : (0 : Int32) ≤ 0 := by decide
theorem im1 : ¬ (0 : Int32) ≤ -1 := by decide
theorem barb {N M : rd_M} {d : Nat} {p lk st : Int32} (hd : d < 10) {X : Option (Int32 × rd_M)} : ((f_N_barred N p (nI d) lk st).bind fun r => if r ≤ 0 then X else some (0, rd_iU M 0 0 r)) = if 0 ≤ (N 10).1 d then (if (N 10).1 d = p ∧ (N 13).1 d &&& lk = 0 ∧ (N 14).1 d = st then X else some (0, rd_iU M 0 0 3)) else some (0, rd_iU M 0 0 2) := by
  rw [bar hd, fe_bind]
  by_cases h1 : 0 ≤ (N 10).1 d
  · simp only [if_pos h1]
    by_cases h2 : (N 10).1 d = p
    · by_cases h3 : (N 13).1 d &&& lk = 0
      · by_cases h4 : (N 14).1 d = st
        · simp only [if_pos h2, if_pos h3, if_pos h4, if_pos i00, if_pos (And.intro h2 (And.intro h3 h4))]
        · simp only [if_pos h2, if_pos h3, if_neg h4, if_neg i30, if_neg (show ¬ ((N 10).1 d = p ∧ (N 13).1 d &&& lk = 0 ∧ (N 14).1 d = st) from fun z => h4 z.2.2)]
      · simp only [if_pos h2, if_neg h3, if_neg i30, if_neg (show ¬ ((N 10).1 d = p ∧ (N 13).1 d &&& lk = 0 ∧ (N 14).1 d = st) from fun z => h3 z.2.1)]
    · simp only [if_neg h2, if_neg i30, if_neg (show ¬ ((N 10).1 d = p ∧ (N 13).1 d &&& lk = 0 ∧ (N 14).1 d = st) from fun z => h2 z.1)]
  · simp only [if_neg h1, if_neg i20]
theorem qW.cg {d w : Nat} {K K' N N' : rd_M} (h : qW d w K N) (h1 : (K' (39 + 8 * d + 2 * w)).1 1 = (K (39 + 8 * d + 2 * w)).1 1) (h2 : ∀ i, i < 3 → (K' (40 + 8 * d + 2 * w)).1 i = (K (40 + 8 * d + 2 * w)).1 i) (n1 : (N' 19).1 (2 * d + w) = (N 19).1 (2 * d + w)) (n2 : ∀ i, i < 3 → (N' 18).1 (6 * d + 3 * w + i) = (N 18).1 (6 * d + 3 * w + i)) : qW d w K' N' := by
  obtain ⟨s, s1, s2, s3, s4⟩ := h
  exact ⟨s, s1, h1.trans s2, n1.trans s3, fun i hi => by rw [h2 i (by omega), n2 i (by omega)]; exact s4 i hi⟩
theorem qG.cg {d k : Nat} {K K' N N' : rd_M} (h : qG d k K N) (h1 : (K' (44 + 8 * d)).1 k = (K (44 + 8 * d)).1 k) (h2 : (K' (43 + 8 * d)).2.2 k = (K (43 + 8 * d)).2.2 k) (n1 : (N' 21).1 (5 * d + k) = (N 21).1 (5 * d + k)) (n2 : (N' 20).2.1 (5 * d + k) = (N 20).2.1 (5 * d + k)) : qG d k K' N' := by
  unfold qG
  rw [h1, h2, n1, n2]
  exact h
theorem qR.dm {u d : Nat} {K N : rd_M} (h : qR u 10 K N) (hd : d < 10) : qD d K N := h.2.2.2.2.2.2.2.2 d hd (by omega)
theorem payForB {u e r : Nat} {K N : rd_M} (h : qR u e K N) (hu : u < 400000) (hr : r < 4) {k y : Int32} {kk yy : Nat} (hk : k = nI kk) (hkk : kk < 4) (hy : y = nI yy) (hyy : yy ≤ 3) : ∃ (a : UInt64) (b : Int64), f_N_cost N (nI r) k y = some b ∧ fq_D b.toInt a ∧ 0 ≤ b.toInt ∧ b.toInt ≤ 192000 ∧ ((f_N_canPay N (nI r) k y = some 0 ∧ f_K_payFor K (nI r) k y = some (.inl "java/lang/IllegalStateException")) ∨ (f_N_canPay N (nI r) k y = some 1 ∧ ∃ K', f_K_payFor K (nI r) k y = some (.inr (a, K')) ∧ (∀ c, c < 3 + 3 * r ∨ 5 + 3 * r < c → K' c = K c) ∧ qR (u + 1) e K' (rd_lU (rd_lU N 2 r ((N 2).2.1 r - b)) 3 (4 * r + kk) ((N 3).2.1 (4 * r + kk) + b)))) := by
  obtain ⟨a, b, c1, c2, c3, c4, c5⟩ := costB h hr hk hkk hy hyy
  refine ⟨a, b, c2, c3, c4, c5, ?_⟩
  obtain ⟨m1, m2, -⟩ := meansB h hr c2 c3
  by_cases hb : b.toInt ≤ ((N 2).2.1 r).toInt
  · obtain ⟨K', s1, s2, s3⟩ := spendB h hu hr hkk c3 c4 c5 hk
    refine Or.inr ⟨by rw [m1, if_pos hb], K', ?_, s2, s3⟩
    unfold f_K_payFor
    simp only [c1, m2, if_pos hb, fe_bind, fe_br, if_pos (ri hr (show 4 < 2 ^ 31 by decide)), ev_c (show r < 2 ^ 31 by omega), s1]
  · refine Or.inl ⟨by rw [m1, if_neg hb], ?_⟩
    unfold f_K_payFor
    simp only [c1, m2, if_neg hb, fe_bind, fe_bl]
theorem sim_lock {u : Nat} {K N : rd_M} (h : qR u 10 K N) (p1 p2 p3 : Int32) : qS Eq u K (f_K_lock K p1 p2 p3) (f_N_lock N p1 p2 p3) := by
  unfold f_K_lock f_N_lock
  simp only [f_regb, f_namb, f_rrb, f_inb, f_fail, f_give, fe_bind]
  by_cases h1 : 0 ≤ p1 ∧ p1 ≤ 3
  · by_cases h2 : 0 ≤ p2 ∧ p2 ≤ 9
    · by_cases h3 : 0 ≤ p3 ∧ p3 ≤ 31
      · obtain ⟨d, hd, rfl⟩ := rg_of (n := 9) (by decide) h2
        have hd : d < 10 := by omega
        simp only [if_pos h1, if_pos h2, if_pos h3, kdtb hd, barb hd, ownb, stab, if_pos (ri hd (show 10 < 2 ^ 31 by decide)), ev_c (show d < 2 ^ 31 by omega), fe_k]
        rcases h.dm hd with ⟨a, b⟩ | ⟨a, ⟨o, o1, o2, o3⟩, b1, b2, b3, b4, b5, b6, b7, b8⟩
        · simp only [if_pos a, b, if_neg im1]; exact qS_2 h
        · simp only [a, o2, o3, b3, b4, if_neg h10, if_pos (nI_pos' (show o < 2 ^ 31 by omega)), Int32.and_zero, true_and]
          by_cases g1 : nI o = p1
          · by_cases g2 : (N 14).1 d = 0
            · simp only [if_pos g1, if_pos g2, if_pos (And.intro g1 g2)]
              refine qS_0 rfl ((((h.ex (e := d)).kw hd (by omega) (by omega) (fun z => absurd z (by omega))).nw (by unfold qO; omega) (fun z => absurd z (by decide))).cl (Or.inr ⟨?_, ⟨o, o1, ?_, ?_⟩, ?_, ?_, ?_, ?_, ?_, ?_, fun w hw => ?_, fun k hk => ?_⟩))
              · rw [me_in (by omega)]; exact a
              · rw [me_in (by omega)]; exact o2
              · rw [me_ic (by omega)]; exact o3
              · rw [me_in (by omega), me_ic (by omega)]; exact b1
              · rw [me_in (by omega), me_ic (by omega)]; exact b2
              · rw [me_ii rfl rfl, me_ii rfl rfl]
              · rw [me_in (by omega), me_ic (by omega)]; exact b4
              · simp (disch := omega) only [me_ii, me_in, me_il, me_li, me_ld, me_ll, me_ln, me_di, me_dl, me_dd, me_dn]; exact b5
              · simp (disch := omega) only [me_ii, me_in, me_il, me_li, me_ld, me_ll, me_ln, me_di, me_dl, me_dd, me_dn]; exact b6
              · exact (b7 w hw).cg (by rw [me_ic (by omega)]) (fun i _ => by rw [me_ic (by omega)]) (by rw [me_ic (by omega)]) (fun i _ => by rw [me_ic (by omega)])
              · exact (b8 k hk).cg (by rw [me_ic (by omega)]) (by rw [me_ic (by omega)]) (by rw [me_ic (by omega)]) (by rw [me_ic (by omega)])
            · simp only [if_pos g1, if_neg g2, if_neg (show ¬ (nI o = p1 ∧ (N 14).1 d = 0) from fun z => g2 z.2)]; exact qS_3 h
          · simp only [if_neg g1, if_neg (show ¬ (nI o = p1 ∧ (N 14).1 d = 0) from fun z => g1 z.1)]; exact qS_3 h
      · simp only [if_pos h1, if_pos h2, if_neg h3]; exact qS_1 h
    · simp only [if_pos h1, if_neg h2]; exact qS_1 h
  · simp only [if_neg h1]; exact qS_1 h
theorem sim_restore {u : Nat} {K N : rd_M} (h : qR u 10 K N) (hu : u < 400000) (p1 p2 : Int32) : qS Eq (u + 1) K (f_K_restore K p1 p2) (f_N_restore N p1 p2) := by
  have h' : qR (u + 1) 10 K N := h.up (by omega) (by omega)
  unfold f_K_restore f_N_restore f_D_enter
  simp only [f_regb, f_namb, f_inb, f_fail, f_give, fe_bind]
  by_cases h1 : 0 ≤ p1 ∧ p1 ≤ 3
  · by_cases h2 : 0 ≤ p2 ∧ p2 ≤ 9
    · obtain ⟨d, hd, rfl⟩ := rg_of (n := 9) (by decide) h2
      have hd : d < 10 := by omega
      obtain ⟨r, hr, rfl⟩ := rg_of (n := 3) (by decide) h1
      have hr : r < 4 := by omega
      simp only [if_pos h1, if_pos h2, kdtb hd, barb hd, ownb, stab, if_pos (ri hd (show 10 < 2 ^ 31 by decide)), ev_c (show d < 2 ^ 31 by omega), fe_k]
      rcases h.dm hd with ⟨a, b⟩ | ⟨a, ⟨o, o1, o2, o3⟩, b1, b2, b3, b4, b5, b6, b7, b8⟩
      · simp only [if_pos a, b, if_neg im1]; exact qS_2 h'
      · simp only [a, o2, o3, b4, if_neg h10, if_pos (nI_pos' (show o < 2 ^ 31 by omega)), Int32.and_zero, true_and]
        by_cases g1 : nI o = nI r
        · by_cases g2 : (N 14).1 d = 1
          · simp only [if_pos g1, if_pos g2, if_pos (And.intro g1 g2)]
            obtain ⟨ca, cb, c2, c3, c4, c5, c6⟩ := payForB (h.ex (e := d)) hu hr (k := 3) (kk := 3) (y := 1) (yy := 1) rfl (by omega) rfl (by omega)
            rcases c6 with ⟨e1, e2⟩ | ⟨e1, K', e2, e3, e4⟩
            · simp only [e1, e2, fe_bind, fe_bl, if_true]; exact qS_4 h'
            · simp only [e1, e2, fe_bind, fe_br, if_neg h10, payN0 c2 hr (show (3 : Int32) = nI 3 from rfl) (by omega)]
              have ek : K' (37 + 8 * d) = K (37 + 8 * d) := e3 _ (by omega)
              refine qS_0 ?_ ((((e4.kw hd (by omega) (by omega) (fun z => absurd z (by omega))).kw hd (by omega) (by omega) (fun z => absurd z (by omega))).nw (by unfold qO; omega) (fun z => absurd z (by decide))).cl (Or.inr ⟨?_, ⟨o, o1, ?_, ?_⟩, ?_, ?_, ?_, ?_, ?_, ?_, fun w hw => ?_, fun k hk => ?_⟩))
              · simp (disch := omega) only [me_ii, me_in, me_il, me_li, me_ld, me_ll, me_ln, me_di, me_dl, me_dd, me_dn, e3]; exact b1
              · simp (disch := omega) only [me_ii, me_in, me_il, me_li, me_ld, me_ll, me_ln, me_di, me_dl, me_dd, me_dn, e3]; exact a
              · simp (disch := omega) only [me_ii, me_in, me_il, me_li, me_ld, me_ll, me_ln, me_di, me_dl, me_dd, me_dn, e3]; exact o2
              · simp (disch := omega) only [me_ii, me_in, me_il, me_li, me_ld, me_ll, me_ln, me_di, me_dl, me_dd, me_dn]; exact o3
              · simp (disch := omega) only [me_ii, me_in, me_il, me_li, me_ld, me_ll, me_ln, me_di, me_dl, me_dd, me_dn, e3]; exact b1
              · simp (disch := omega) only [me_ii, me_in, me_il, me_li, me_ld, me_ll, me_ln, me_di, me_dl, me_dd, me_dn, e3]; exact b2
              · simp (disch := omega) only [me_ii, me_in, me_il, me_li, me_ld, me_ll, me_ln, me_di, me_dl, me_dd, me_dn, e3]; exact b3
              · simp (disch := omega) only [me_ii, me_in, me_il, me_li, me_ld, me_ll, me_ln, me_di, me_dl, me_dd, me_dn]
              · exact Or.inl (me_ii rfl rfl)
              · simp (disch := omega) only [me_ii, me_in, me_il, me_li, me_ld, me_ll, me_ln, me_di, me_dl, me_dd, me_dn, e3]; exact b6
              · exact (b7 w hw).cg (by rw [me_ic (by omega), me_ic (by omega), e3 _ (by omega)]) (fun i _ => by rw [me_ic (by omega), me_ic (by omega), e3 _ (by omega)]) (by rw [me_ic (by omega), me_lc (by omega), me_lc (by omega)]) (fun i _ => by rw [me_ic (by omega), me_lc (by omega), me_lc (by omega)])
              · exact (b8 k hk).cg (by rw [me_ic (by omega), me_ic (by omega), e3 _ (by omega)]) (by rw [me_ic (by omega), me_ic (by omega), e3 _ (by omega)]) (by rw [me_ic (by omega), me_lc (by omega), me_lc (by omega)]) (by rw [me_ic (by omega), me_lc (by omega), me_lc (by omega)])
          · simp only [if_pos g1, if_neg g2, if_neg (show ¬ (nI o = nI r ∧ (N 14).1 d = 1) from fun z => g2 z.2)]; exact qS_3 h'
        · simp only [if_neg g1, if_neg (show ¬ (nI o = nI r ∧ (N 14).1 d = 1) from fun z => g1 z.1)]; exact qS_3 h'
    · simp only [if_pos h1, if_neg h2]; exact qS_1 h'
  · simp only [if_neg h1]; exact qS_1 h'
