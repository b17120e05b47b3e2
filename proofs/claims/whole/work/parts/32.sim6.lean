/-! counting -/
def qcnt (f : Nat → Bool) : Nat → Nat
  | 0 => 0
  | n + 1 => qcnt f n + (if f n then 1 else 0)
theorem qcnt_s (f : Nat → Bool) (n : Nat) : qcnt f (n + 1) = qcnt f n + (if f n then 1 else 0) := rfl
theorem qcnt_le (f : Nat → Bool) (n : Nat) : qcnt f n ≤ n := by
  induction n with
  | zero => exact Nat.le_refl _
  | succ n ih => rw [qcnt_s]; split <;> omega
theorem qcnt_ext {f : Nat → Bool} {c : Nat} (h : ∀ j, c ≤ j → f j = false) (k : Nat) : qcnt f (c + k) = qcnt f c := by
  induction k with
  | zero => rfl
  | succ k ih =>
    rw [show c + (k + 1) = (c + k) + 1 by omega, qcnt_s, ih, h _ (by omega)]
    rfl
theorem qcnt_step (f : Nat → Bool) (n : Nat) : (if f n = true then nI (qcnt f n) + 1 else nI (qcnt f n)) = nI (qcnt f (n + 1)) := by
  rw [qcnt_s]
  by_cases h : f n = true
  · rw [if_pos h, if_pos h, ea1]
  · rw [if_neg h, if_neg h]; rfl
/-- a loop that counts -/
theorem lp_cnt {z : Int32 → Int32 → Option Int32} {lb : (Int32 → Int32 → Option Int32) → Int32 → Int32 → Option Int32} {n : Nat} (f : Nat → Bool) (hn : n < 63) (step : ∀ i, i < n → ∀ (a : Int32) rec, lb rec (nI i) a = rec (nI (i + 1)) (if f i = true then a + 1 else a)) (last : ∀ (a : Int32) rec, lb rec (nI n) a = some a) : rd_it z lb 64 0 0 = some (nI (qcnt f n)) := by
  obtain ⟨a, ha, e⟩ := lp_run (z := z) (lb := lb) (n := n) (fun i a => if f i = true then a + 1 else a) (fun i a => a = nI (qcnt f i)) (fun i hi a hP => ⟨by rw [hP]; exact qcnt_step f i, fun rec => step i hi a rec⟩) n 0 64 (nI 0) (by omega) rfl (by omega)
  exact e.trans (by rw [last, ha])

theorem hasC {K N : rd_M} (h : qC K N) : ∃ f : Nat → Bool, (∀ j, 8 ≤ j → f j = false) ∧ (∀ i, i < 8 → f_S_has K 0 (nI i) = some (if f i = true then 1 else 0) ∧ f_N_noThing N 0 (nI i) = some (if f i = true then 0 else 1)) ∧ ∃ c, c ≤ 8 ∧ (K (16 + 10 * 0)).1 1 = nI c ∧ (N 0).1 7 = nI c ∧ (∀ j, c ≤ j → f j = false) ∧ ∀ i, i < c → ((K (18 + 10 * 0 + i)).1 0 = 0 ∧ f i = false) ∨ ((K (18 + 10 * 0 + i)).1 0 = 1 ∧ f i = true) := by
  obtain ⟨c, c1, c2, c3, c4⟩ := id h
  refine ⟨fun j => decide (j < c ∧ (K (18 + 10 * 0 + j)).1 0 = 1), fun j hj => by simp; omega, fun i hi => ?_, c, c1, c2, c3, fun j hj => by simp; omega, fun i hi => ?_⟩
  · rcases thC h (nI i) with ⟨x1, x2, x3⟩ | ⟨n, n8, e, x1, x2, x3, ⟨c', d1, d2, d3, d4⟩, x4, -⟩
    · have : ¬ (i < c ∧ (K (18 + 10 * 0 + i)).1 0 = 1) := fun z => by
        unfold f_S_has at x3
        rw [if_neg (nI_pos (by omega)), c2, if_neg (nI_ge z.1 (by omega)), if_pos (ri hi (by decide)), fe_k, ev_c (by omega), z.2, if_neg h10] at x3
        exact absurd (Option.some.inj x3) (by decide)
      simp only [this, decide_false, x1, x3, Bool.false_eq_true, if_false, and_self]
    · obtain rfl : i = n := by rw [eII (by omega) (by omega)] at e; exact e
      have : i < c ∧ (K (18 + 10 * 0 + i)).1 0 = 1 := ⟨by rw [c2, eII (by omega) (by omega)] at d3; omega, x4⟩
      simp only [this, and_self, decide_true, x1, x3, if_true]
  · have hc := c4 i hi
    rcases hc with ⟨a, b⟩ | ⟨a, -⟩
    · exact Or.inl ⟨a, by simp [a]⟩
    · exact Or.inr ⟨a, by simp [a, hi]⟩
theorem leftC {K N : rd_M} (h : qC K N) : ∃ m, f_S_howManyThere K 0 = some (nI m) ∧ f_N_left N 0 = some (nI m) := by
  obtain ⟨f, f8, f1, c, c1, c2, c3, c4, c5⟩ := hasC h
  refine ⟨qcnt f c, ?_, ?_⟩
  · unfold f_S_howManyThere
    refine lp_cnt f (by omega) (fun i hi a rec => ?_) (fun a rec => ?_)
    · unfold lb_S_howManyThere_4
      rw [c2, if_neg (nI_ge hi (by omega)), if_pos (ri (show i < 8 by omega) (by decide)), ev_c (by omega), ea1]
      rcases c5 i hi with ⟨a, b⟩ | ⟨a, b⟩
      · rw [if_pos a, b]; rfl
      · rw [a, if_neg h10, b]; rfl
    · unfold lb_S_howManyThere_4
      rw [c2, if_pos (nI_le (Nat.le_refl _) (by omega))]
  · unfold f_N_left
    rw [← qcnt_ext (f := f) (c := c) c4 (8 - c), show c + (8 - c) = 8 by omega]
    refine lp_cnt f (by omega) (fun i hi a rec => ?_) (fun a rec => ?_)
    · unfold lb_N_left_4
      rw [if_neg (nl8 hi), (f1 i hi).2, fe_bind, ea1]
      by_cases e : f i = true
      · simp only [e, if_true]
      · simp only [if_neg e, if_neg h10]
    · unfold lb_N_left_4
      rw [if_pos (by decide)]

theorem hasH {K N : rd_M} (h : qH K N) : ∃ f : Nat → Bool, (∀ j, 8 ≤ j → f j = false) ∧ (∀ i, i < 8 → f_S_has K 1 (nI i) = some (if f i = true then 1 else 0) ∧ f_N_noThing N 1 (nI i) = some (if f i = true then 0 else 1)) ∧ ∃ c, c ≤ 8 ∧ (K (16 + 10 * 1)).1 1 = nI c ∧ (N 0).1 9 = nI c ∧ (∀ j, c ≤ j → f j = false) ∧ ∀ i, i < c → ((K (18 + 10 * 1 + i)).1 0 = 0 ∧ f i = false) ∨ ((K (18 + 10 * 1 + i)).1 0 = 1 ∧ f i = true) := by
  obtain ⟨c, c1, c2, c3, c4⟩ := id h
  refine ⟨fun j => decide (j < c ∧ (K (18 + 10 * 1 + j)).1 0 = 1), fun j hj => by simp; omega, fun i hi => ?_, c, c1, c2, c3, fun j hj => by simp; omega, fun i hi => ?_⟩
  · rcases thH h (nI i) with ⟨x1, x2, x3⟩ | ⟨n, n8, e, x1, x2, x3, ⟨c', d1, d2, d3, d4⟩, x4, -⟩
    · have : ¬ (i < c ∧ (K (18 + 10 * 1 + i)).1 0 = 1) := fun z => by
        unfold f_S_has at x3
        rw [if_neg (nI_pos (by omega)), c2, if_neg (nI_ge z.1 (by omega)), if_pos (ri hi (by decide)), fe_k, ev_c (by omega), z.2, if_neg h10] at x3
        exact absurd (Option.some.inj x3) (by decide)
      simp only [this, decide_false, x1, x3, Bool.false_eq_true, if_false, and_self]
    · obtain rfl : i = n := by rw [eII (by omega) (by omega)] at e; exact e
      have : i < c ∧ (K (18 + 10 * 1 + i)).1 0 = 1 := ⟨by rw [c2, eII (by omega) (by omega)] at d3; omega, x4⟩
      simp only [this, and_self, decide_true, x1, x3, if_true]
  · have hc := c4 i hi
    rcases hc.1 with ⟨a, b⟩ | ⟨a, -⟩
    · exact Or.inl ⟨a, by simp [a]⟩
    · exact Or.inr ⟨a, by simp [a, hi]⟩
theorem leftH {K N : rd_M} (h : qH K N) : ∃ m, f_S_howManyThere K 1 = some (nI m) ∧ f_N_left N 1 = some (nI m) := by
  obtain ⟨f, f8, f1, c, c1, c2, c3, c4, c5⟩ := hasH h
  refine ⟨qcnt f c, ?_, ?_⟩
  · unfold f_S_howManyThere
    refine lp_cnt f (by omega) (fun i hi a rec => ?_) (fun a rec => ?_)
    · unfold lb_S_howManyThere_4
      rw [c2, if_neg (nI_ge hi (by omega)), if_pos (ri (show i < 8 by omega) (by decide)), ev_c (by omega), ea1]
      rcases c5 i hi with ⟨a, b⟩ | ⟨a, b⟩
      · rw [if_pos a, b]; rfl
      · rw [a, if_neg h10, b]; rfl
    · unfold lb_S_howManyThere_4
      rw [c2, if_pos (nI_le (Nat.le_refl _) (by omega))]
  · unfold f_N_left
    rw [← qcnt_ext (f := f) (c := c) c4 (8 - c), show c + (8 - c) = 8 by omega]
    refine lp_cnt f (by omega) (fun i hi a rec => ?_) (fun a rec => ?_)
    · unfold lb_N_left_4
      rw [if_neg (nl8 hi), (f1 i hi).2, fe_bind, ea1]
      by_cases e : f i = true
      · simp only [e, if_true]
      · simp only [if_neg e, if_neg h10]
    · unfold lb_N_left_4
      rw [if_pos (by decide)]

/-! remove -/
theorem sim_remove {u : Nat} {K N : rd_M} (h : qR u 10 K N) (p1 p2 p3 : Int32) : qS Eq u K (f_K_remove K p1 p2 p3) (f_N_remove N p1 p2 p3) := by
  unfold f_K_remove f_N_remove
  simp only [f_regb, f_rrb, f_inb, f_fail, f_give, fe_bind]
  by_cases h1 : 0 ≤ p1 ∧ p1 ≤ 3
  · by_cases h2 : 0 ≤ p2 ∧ p2 ≤ 1
    · simp only [if_pos h1, if_pos h2, ownb]
      rcases rg01 h2 with rfl | rfl
      · rcases thC h.2.2.2.2.1 p3 with ⟨x1, x2, -⟩ | ⟨n, n8, rfl, x1, x2, -, ⟨c, d1, d2, d3, d4⟩, x4, x5, m, m4, x6⟩
        · simp only [x1, x2, fe_bind, fe_bl, if_neg h10]; exact qS_2 h
        · simp only [x1, x2, fe_bind, fe_br, if_true, if_pos (ri n8 (show 8 < 2 ^ 31 by decide)), ev_c (show n < 2 ^ 31 by omega), x5, if_pos (show rd_in 0 2 by decide), cn0, fe_k]
          by_cases g1 : (N 6).1 n = p1
          · simp only [if_pos g1]
            obtain ⟨v, v1, v2, v3⟩ := usB (nI n) (show (0 : Int32) = nI 0 from rfl) (by omega) h
            simp only [v2, v3, fe_bind, el_0 (show v < 2 ^ 31 by omega)]
            by_cases g2 : v = 0
            · have hq : qR u 10 (rd_iU K (18 + 10 * 0 + n) 0 0) (rd_iU N 6 n (-1)) := by
                refine h.co (fun x hx => me_ic (by omega)) (fun x _ h6 => me_ic h6) (by rw [me_ic (by decide)]) (by rw [me_ic (by decide)]) ⟨c, d1, by rw [me_ic (by omega)]; exact d3, by rw [me_ic (by decide)]; exact d4, fun i hi => ?_⟩
                by_cases e : i = n
                · subst e
                  exact Or.inl ⟨me_ii rfl rfl, me_ii rfl rfl⟩
                · rw [me_ic (by omega), me_in (by omega)]
                  obtain ⟨c0, e9, e2, -, e4⟩ := h.2.2.2.2.1
                  exact e4 i (by rw [d3, eII (by omega) (by omega)] at e2; omega)
              obtain ⟨q, q1, q2⟩ := leftC hq.2.2.2.2.1
              simp only [if_pos g2, q1, q2, fe_bind]
              exact qS_0 rfl hq
            · simp only [if_neg g2]; exact qS_4 h
          · simp only [if_neg g1]; exact qS_3 h
      · rcases thH h.2.2.2.2.2.1 p3 with ⟨x1, x2, -⟩ | ⟨n, n8, rfl, x1, x2, -, ⟨c, d1, d2, d3, d4⟩, x4, x5, y1, y2, m, m4, x6⟩
        · simp only [x1, x2, fe_bind, fe_bl, if_neg h10]; exact qS_2 h
        · simp only [x1, x2, fe_bind, fe_br, if_true, if_neg h10, if_pos (ri n8 (show 8 < 2 ^ 31 by decide)), ev_c (show n < 2 ^ 31 by omega), x5, if_pos (show rd_in 1 2 by decide), cn1, fe_k]
          by_cases g1 : (N 7).1 n = p1
          · simp only [if_pos g1]
            obtain ⟨v, v1, v2, v3⟩ := usB (nI n) (show (1 : Int32) = nI 1 from rfl) (by omega) h
            simp only [v2, v3, fe_bind, el_0 (show v < 2 ^ 31 by omega)]
            by_cases g2 : v = 0
            · have hq : qR u 10 (rd_iU K (18 + 10 * 1 + n) 0 0) (rd_iU N 7 n (-1)) := by
                refine h.ho (fun x hx => me_ic (by omega)) (fun x _ h7 _ _ => me_ic h7) (by rw [me_ic (by decide)]) (by rw [me_ic (by decide)]) ⟨c, d1, by rw [me_ic (by omega)]; exact d3, by rw [me_ic (by decide)]; exact d4, fun i hi => ?_⟩
                by_cases e : i = n
                · subst e
                  exact ⟨Or.inl ⟨me_ii rfl rfl, me_ii rfl rfl⟩, fun z => absurd ((me_ii rfl rfl).symm.trans z) (by decide)⟩
                · rw [me_ic (show 18 + 10 * 1 + i ≠ 18 + 10 * 1 + n by omega), me_in (by omega), me_ic (by decide), me_ic (by decide)]
                  obtain ⟨c0, e9, e2, -, e4⟩ := h.2.2.2.2.2.1
                  exact e4 i (by rw [d3, eII (by omega) (by omega)] at e2; omega)
              obtain ⟨q, q1, q2⟩ := leftH hq.2.2.2.2.2.1
              simp only [if_pos g2, q1, q2, fe_bind]
              exact qS_0 rfl hq
            · simp only [if_neg g2]; exact qS_4 h
          · simp only [if_neg g1]; exact qS_3 h
    · simp only [if_pos h1, if_neg h2]; exact qS_1 h
  · simp only [if_neg h1]; exact qS_1 h
/-! thing -/
theorem sim_thing {u : Nat} {K N : rd_M} (h : qR u 10 K N) (p1 p2 : Int32) : qS Eq u K (qpure K (f_K_thing K p1 p2)) (f_N_thing N p1 p2) := by
  unfold f_K_thing f_N_thing
  simp only [f_rrb, f_inb, f_fail, f_give, fe_bind, fe_k]
  by_cases h0 : 100 ≤ p1
  · simp only [if_pos h0, if_neg (le_lt h0), if_neg (show ¬ (0 : Int32) = 1 by decide), if_true]
    by_cases h1 : 0 ≤ p1 - 100 ∧ p1 - 100 ≤ 7
    · by_cases h2 : 0 ≤ p2 ∧ p2 ≤ 3
      · simp only [if_pos h1, if_pos h2]
        rcases thC h.2.2.2.2.1 (p1 - 100) with ⟨x1, x2, -⟩ | ⟨n, n8, e, x1, x2, -, ⟨c, d1, d2, d3, d4⟩, x4, x5, m, m4, x6⟩
        · simp only [x1, x2, fe_bind, fe_bl, if_neg h10]; exact qS_2 h
        · simp only [x1, x2, fe_bind, fe_br, if_true]
          rw [e]
          obtain ⟨v, v1, v2, v3⟩ := usB (nI n) (show (0 : Int32) = nI 0 from rfl) (by omega) h
          simp only [v2, v3, fe_bind, x5, if_pos (ri n8 (show 8 < 2 ^ 31 by decide)), ev_c (show n < 2 ^ 31 by omega)]
          by_cases g0 : p2 = 0
          · subst g0
            simp only [if_true, if_neg (show ¬ (0 : Int32) = 3 by decide)]; exact qS_0 rfl h
          · simp only [if_neg g0]
            by_cases g3 : p2 = 3
            · simp only [if_pos g3]; exact qS_0 rfl h
            · simp only [if_neg g3]; exact qS_0 rfl h
      · simp only [if_pos h1, if_neg h2]; exact qS_1 h
    · simp only [if_neg h1]; exact qS_1 h
  · simp only [if_neg h0, if_pos (nle_lt h0), if_true, if_neg h10]
    by_cases h1 : 0 ≤ p1 ∧ p1 ≤ 7
    · by_cases h2 : 0 ≤ p2 ∧ p2 ≤ 3
      · simp only [if_pos h1, if_pos h2]
        rcases thH h.2.2.2.2.2.1 p1 with ⟨x1, x2, -⟩ | ⟨n, n8, rfl, x1, x2, -, ⟨c, d1, d2, d3, d4⟩, x4, x5, y1, y2, m, m4, x6⟩
        · simp only [x1, x2, fe_bind, fe_bl, if_neg h10]; exact qS_2 h
        · simp only [x1, x2, fe_bind, fe_br, if_true]
          obtain ⟨v, v1, v2, v3⟩ := usB (nI n) (show (1 : Int32) = nI 1 from rfl) (by omega) h
          simp only [v2, v3, fe_bind, x5, y1, y2, if_pos (ri n8 (show 8 < 2 ^ 31 by decide)), ev_c (show n < 2 ^ 31 by omega)]
          by_cases g0 : p2 = 0
          · subst g0
            simp only [if_true, if_neg (show ¬ (0 : Int32) = 3 by decide)]; exact qS_0 rfl h
          · simp only [if_neg g0]
            by_cases g3 : p2 = 3
            · simp only [if_pos g3]; exact qS_0 rfl h
            · simp only [if_neg g3]
              by_cases g1 : p2 = 1
              · simp only [if_pos g1]; exact qS_0 rfl h
              · simp only [if_neg g1]; exact qS_0 rfl h
      · simp only [if_pos h1, if_neg h2]; exact qS_1 h
    · simp only [if_neg h1]; exact qS_1 h
/-! how many domains, how many messages -/
theorem domB {u : Nat} {K N : rd_M} (h : qR u 10 K N) : ∃ m, f_K_domainsThere K = some (nI m) ∧ f_N_domains N = some (nI m) := by
  have key : ∀ i, i < 10 → ((K (37 + 8 * i)).1 3 = 0 ∧ ¬ 0 ≤ (N 10).1 i) ∨ ((K (37 + 8 * i)).1 3 = 1 ∧ 0 ≤ (N 10).1 i) := fun i hi => by
    rcases h.dm hi with ⟨a, b⟩ | ⟨a, ⟨o, o1, o2, o3⟩, -⟩
    · exact Or.inl ⟨a, by rw [b]; decide⟩
    · exact Or.inr ⟨a, by rw [o3]; exact nI_pos' (by omega)⟩
  refine ⟨qcnt (fun i => decide (0 ≤ (N 10).1 i)) 10, ?_, ?_⟩
  · unfold f_K_domainsThere
    refine lp_cnt _ (by omega) (fun i hi a rec => ?_) (fun a rec => ?_)
    · unfold lb_K_domainsThere_4
      rw [if_neg (nl10 hi), if_pos (ri hi (by decide)), ev_c (by omega), ea1]
      rcases key i hi with ⟨a, b⟩ | ⟨a, b⟩
      · rw [if_pos a]; simp [b]
      · rw [a, if_neg h10]; simp [b]
    · unfold lb_K_domainsThere_4
      rw [if_pos (by decide)]
  · unfold f_N_domains
    refine lp_cnt _ (by omega) (fun i hi a rec => ?_) (fun a rec => ?_)
    · unfold lb_N_domains_4
      rw [if_neg (nl10 hi), ndm hi, fe_bind, ea1]
      by_cases e : 0 ≤ (N 10).1 i
      · simp [e]
      · simp [e]
    · unfold lb_N_domains_4
      rw [if_pos (by decide)]
theorem msgB {u : Nat} {K N : rd_M} (h : qR u 10 K N) : f_K_messagesOfAll K = some (((((N 4).1 0) + ((N 4).1 1)) + ((N 4).1 2)) + ((N 4).1 3)) := by
  unfold f_K_messagesOfAll
  have st : ∀ i, i < 4 → ∀ a rec, lb_K_messagesOfAll_4 K (fun _ w => some w) rec (nI i) a = rec (nI (i + 1)) (a + (N 4).1 i) := fun i hi a rec => by
    obtain ⟨-, -, c, c1, c2, c3, -⟩ := h.2.2.2.1 i hi
    unfold lb_K_messagesOfAll_4
    rw [if_neg (nl4 hi), if_pos (ri hi (by decide)), ev_c (by omega), ea1, c2, c3]
  have s4 : ∀ a rec, lb_K_messagesOfAll_4 K (fun _ w => some w) rec (nI 4) a = some a := fun a rec => by
    unfold lb_K_messagesOfAll_4
    rw [if_pos (by decide)]
  rw [show (64 : Nat) = 59 + 1 + 1 + 1 + 1 + 1 from rfl, show rd_it (fun _ _ => none) (lb_K_messagesOfAll_4 K fun _ w => some w) (59 + 1 + 1 + 1 + 1 + 1) 0 0 = rd_it (fun _ _ => none) (lb_K_messagesOfAll_4 K fun _ w => some w) (59 + 1 + 1 + 1 + 1 + 1) (nI 0) 0 from rfl]
  rw [rd_it_s, st 0 (by omega), rd_it_s, st 1 (by omega), rd_it_s, st 2 (by omega), rd_it_s, st 3 (by omega), rd_it_s, s4, Int32.zero_add]
