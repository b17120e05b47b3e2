/-! money -/
theorem cv {i j : Int} {a b : UInt64} (ha : fq_D i a) (hb : fq_D j b) (g : CmpOp) : Op.cmpValue (FP.dcmp a b) g = if i < j then -1 else if i = j then 0 else 1 := by
  rw [fq_cmp ha hb]
  by_cases h1 : i < j
  · rw [if_pos h1, show compare i j = .lt from Int.compare_eq_lt.mpr h1]; rfl
  · rw [if_neg h1]
    by_cases h2 : i = j
    · rw [if_pos h2, show compare i j = .eq from Int.compare_eq_eq.mpr h2]; rfl
    · rw [if_neg h2, show compare i j = .gt from Int.compare_eq_gt.mpr (by omega)]; rfl
theorem cv_lt {i j : Int} {a b : UInt64} (ha : fq_D i a) (hb : fq_D j b) {g : CmpOp} : (Op.cmpValue (FP.dcmp a b) g < 0) = (i < j) := by
  rw [cv ha hb]
  by_cases h1 : i < j
  · simp only [h1, if_true]; decide
  · simp only [h1, if_false]
    by_cases h2 : i = j
    · simp only [h2, if_true]; decide
    · simp only [h2, if_false]; decide
theorem cv_le {i j : Int} {a b : UInt64} (ha : fq_D i a) (hb : fq_D j b) {g : CmpOp} : (Op.cmpValue (FP.dcmp a b) g ≤ 0) = (i ≤ j) := by
  rw [cv ha hb]
  by_cases h1 : i < j
  · have : i ≤ j := by omega
    simp only [h1, this, if_true]; decide
  · simp only [h1, if_false]
    by_cases h2 : i = j
    · have : i ≤ j := by omega
      simp only [h2, if_true, Int.le_refl]; decide
    · have : ¬ i ≤ j := by omega
      simp only [h2, this, if_false]; decide
theorem cv_ge {i j : Int} {a b : UInt64} (ha : fq_D i a) (hb : fq_D j b) {g : CmpOp} : (0 ≤ Op.cmpValue (FP.dcmp a b) g) = (j ≤ i) := by
  rw [cv ha hb]
  by_cases h1 : i < j
  · have : ¬ j ≤ i := by omega
    simp only [h1, this, if_true]; decide
  · have : j ≤ i := by omega
    simp only [h1, this, if_false]
    by_cases h2 : i = j
    · simp only [h2, if_true]; decide
    · simp only [h2, if_false]; decide
theorem cv_gt {i j : Int} {a b : UInt64} (ha : fq_D i a) (hb : fq_D j b) {g : CmpOp} : (0 < Op.cmpValue (FP.dcmp a b) g) = (j < i) := by
  rw [cv ha hb]
  by_cases h1 : i < j
  · have : ¬ j < i := by omega
    simp only [h1, this, if_true]; decide
  · simp only [h1, if_false]
    by_cases h2 : i = j
    · have : ¬ j < i := by omega
      simp only [h2, if_true, Int.lt_irrefl]; decide
    · have : j < i := by omega
      simp only [h2, this, if_false]; decide
theorem cv_eq {i : Int} {a b : UInt64} (ha : fq_D i a) (hb : fq_D i b) {g : CmpOp} : Op.cmpValue (FP.dcmp a b) g = 0 := by
  rw [cv ha hb, if_neg (by omega), if_pos rfl]
theorem nn {i : Int} {a : UInt64} (h : fq_D i a) : rd_nn a := fq_nn h
theorem nu_add {a b : Int64} (h1 : -2 ^ 62 ≤ a.toInt + b.toInt) (h2 : a.toInt + b.toInt ≤ 2 ^ 62) : (a + b).toInt = a.toInt + b.toInt := by
  rw [Int64.toInt_add]; exact Int.bmod_eq_of_le (by omega) (by omega)
theorem nu_sub {a b : Int64} (h1 : -2 ^ 62 ≤ a.toInt - b.toInt) (h2 : a.toInt - b.toInt ≤ 2 ^ 62) : (a - b).toInt = a.toInt - b.toInt := by
  rw [Int64.toInt_sub]; exact Int.bmod_eq_of_le (by omega) (by omega)
theorem nu_mul {a b : Int64} (h1 : -2 ^ 62 ≤ a.toInt * b.toInt) (h2 : a.toInt * b.toInt ≤ 2 ^ 62) : (a * b).toInt = a.toInt * b.toInt := by
  rw [Int64.toInt_mul]; exact Int.bmod_eq_of_le (by omega) (by omega)
theorem nu_8 {a : Int64} {q : Nat} (h : a.toInt = 8 * (q : Int)) (hq : q ≤ 2 ^ 40) : (a / 8).toInt = q := by
  rw [Int64.toInt_div, h, show (8 : Int64).toInt = 8 from rfl, Int.mul_tdiv_cancel_left _ (by omega)]
  exact Int.bmod_eq_of_le (by omega) (by omega)
theorem nI64 {n : Nat} (h : n < 2 ^ 31) : (nI n).toInt64.toInt = n := by rw [Int32.toInt_toInt64, nI_toInt h]
theorem costB {u e r : Nat} {K N : rd_M} (h : qR u e K N) (hr : r < 4) {k y : Int32} {kk yy : Nat} (hk : k = nI kk) (hkk : kk < 4) (hy : y = nI yy) (hyy : yy ≤ 3) : ∃ (a : UInt64) (b : Int64), f_K_costOf K (nI r) k y = some a ∧ f_N_cost N (nI r) k y = some b ∧ fq_D b.toInt a ∧ 0 ≤ b.toInt ∧ b.toInt ≤ 192000 := by
  subst hk hy
  obtain ⟨pD, q, q1, q2⟩ := h.2.2.1 kk hkk
  have bD := (h.2.2.2.1 r hr).1.1
  have yD : FP.Core.DInt (yy : Int) (FP.i2d (nI yy)) := by have := FP.Core.i2d_int (nI yy); rw [nI_toInt (by omega)] at this; exact this
  have hqy : q * yy ≤ 24000 := Nat.le_trans (Nat.mul_le_mul q1 hyy) (by omega)
  have f1 : fq_D (8 * ((q * yy : Nat) : Int)) (FP.dmul ((K 1).2.2 kk) (FP.i2d (nI yy))) := by
    have := fq_mul pD yD (by rw [q2, Int.mul_assoc, ← Int.natCast_mul]; omega)
    rw [q2, Int.mul_assoc, ← Int.natCast_mul] at this
    exact this
  have f2 : fq_D (7 * ((q * yy : Nat) : Int)) (FP.dmul (FP.dmul ((K 1).2.2 kk) (FP.i2d (nI yy))) 4606056518893174784) := by
    have := fq_mul7 (i := ((q * yy : Nat) : Int)) (by rw [Int.mul_comm]; exact f1) (by omega)
    rw [Int.mul_comm] at this
    exact this
  have e1 : (((N 1).2.1 kk) * (nI yy).toInt64).toInt = 8 * ((q * yy : Nat) : Int) := by
    have hm : ((N 1).2.1 kk).toInt * (nI yy).toInt64.toInt = 8 * ((q * yy : Nat) : Int) := by rw [q2, nI64 (by omega), Int.mul_assoc, ← Int.natCast_mul]
    rw [nu_mul (by omega) (by omega)]
    exact hm
  have e2 : ((((N 1).2.1 kk) * (nI yy).toInt64) / 8 * 7).toInt = 7 * ((q * yy : Nat) : Int) := by
    have h8 := nu_8 e1 (by omega)
    have hm : ((((N 1).2.1 kk) * (nI yy).toInt64) / 8).toInt * (7 : Int64).toInt = 7 * ((q * yy : Nat) : Int) := by rw [h8, show (7 : Int64).toInt = 7 from rfl, Int.mul_comm]
    rw [nu_mul (by omega) (by omega)]
    exact hm
  have hK : f_K_costOf K (nI r) (nI kk) (nI yy) = if ((N 2).2.1 r).toInt < 6400 then some (FP.dmul ((K 1).2.2 kk) (FP.i2d (nI yy))) else some (FP.dmul (FP.dmul ((K 1).2.2 kk) (FP.i2d (nI yy))) 4606056518893174784) := by
    unfold f_K_costOf
    rw [if_pos (ri hkk (by decide)), ev_c (show kk < 2 ^ 31 by omega), if_pos (nn f1), if_pos (ri hr (by decide)), ev_c (show r < 2 ^ 31 by omega), if_pos (nn f2)]
    simp only [cv_lt bD fq_100]
  have hN : f_N_cost N (nI r) (nI kk) (nI yy) = if ((N 2).2.1 r).toInt < 6400 then some (((N 1).2.1 kk) * (nI yy).toInt64) else some ((((N 1).2.1 kk) * (nI yy).toInt64) / 8 * 7) := by
    unfold f_N_cost
    rw [if_pos (ri hkk (by decide)), ev_c (show kk < 2 ^ 31 by omega), if_pos (ri hr (by decide)), ev_c (show r < 2 ^ 31 by omega)]
    simp only [lg_cmp_lt, Int64.lt_iff_toInt_lt, show (6400 : Int64).toInt = 6400 from rfl]
  by_cases hb : ((N 2).2.1 r).toInt < 6400
  · refine ⟨_, _, by rw [hK, if_pos hb], by rw [hN, if_pos hb], by rw [e1]; exact f1, by omega, by omega⟩
  · refine ⟨_, _, by rw [hK, if_neg hb], by rw [hN, if_neg hb], by rw [e2]; exact f2, by omega, by omega⟩
/-- what a payment changes of an account -/
theorem spendB {u e r : Nat} {K N : rd_M} (h : qR u e K N) (hu : u < 400000) (hr : r < 4) {kk : Nat} (hkk : kk < 4) {a : UInt64} {b : Int64} (hab : fq_D b.toInt a) (h0 : 0 ≤ b.toInt) (h1 : b.toInt ≤ 192000) {k : Int32} (hk : k = nI kk) : ∃ K', f_A_spend K r k a = some K' ∧ (∀ c, c < 3 + 3 * r ∨ 5 + 3 * r < c → K' c = K c) ∧ qR (u + 1) e K' (rd_lU (rd_lU N 2 r ((N 2).2.1 r - b)) 3 (4 * r + kk) ((N 3).2.1 (4 * r + kk) + b)) := by
  subst hk
  have hA := h.2.2.2.1 r hr
  obtain ⟨⟨a1, a2⟩, a3, cn, c1, c2, c3, c4⟩ := hA
  have hb1 : ((N 2).2.1 r).toInt.natAbs ≤ 400000 * 1000000 := Nat.le_trans a2 (Nat.mul_le_mul_right _ (by omega))
  have hb2 := Nat.le_trans (a3 kk hkk).2 (Nat.mul_le_mul_right 1000000 (show u ≤ 400000 by omega))
  have s1 : ((N 2).2.1 r - b).toInt = ((N 2).2.1 r).toInt - b.toInt := nu_sub (by omega) (by omega)
  have s2 : ((N 3).2.1 (4 * r + kk) + b).toInt = ((N 3).2.1 (4 * r + kk)).toInt + b.toInt := nu_add (by omega) (by omega)
  have f1 := fq_sub a1 hab (by omega)
  have f2 := fq_add (a3 kk hkk).1 hab (by omega)
  refine ⟨rd_dU (rd_dU K (3 + 3 * r) 2 (FP.dsub ((K (3 + 3 * r)).2.2 2) a)) (4 + 3 * r) kk (FP.dadd ((K (4 + 3 * r)).2.2 kk) a), ?_, ?_, ?_⟩
  · unfold f_A_spend
    rw [if_pos (nn f1), fe_k, if_pos (ri hkk (by decide)), if_pos (ri hkk (by decide)), ev_c (by omega), me_dc (show 4 + 3 * r ≠ 3 + 3 * r by omega), if_pos (nn f2), fe_k]
  · intro c hc
    rw [me_dc (by omega), me_dc (by omega)]
  · refine h.ac (by omega) (by omega) hr (fun c hc => by rw [me_dc (by omega), me_dc (by omega)]) (fun c hc => by rw [me_lc (by omega), me_lc (by omega)]) (fun x hx hne => ⟨?_, fun k hk => ?_, ?_, fun i hi => ?_⟩) ⟨⟨?_, ?_⟩, fun k hk => ?_, cn, c1, ?_, ?_, fun i hi => ?_⟩
    · rw [me_lc (by omega), me_ln (by omega)]
    · rw [me_ln (by omega), me_lc (by omega)]
    · rw [me_li, me_li]
    · rw [me_li, me_li]
    · rw [me_lc (by omega), me_ll rfl rfl, me_dc (by omega), me_dd rfl rfl, s1]; exact f1
    · rw [me_lc (by omega), me_ll rfl rfl, s1]
      have : (u + 1) * 1000000 = u * 1000000 + 1000000 := Nat.succ_mul u 1000000
      omega
    · have : (u + 1) * 1000000 = u * 1000000 + 1000000 := Nat.succ_mul u 1000000
      by_cases e1 : k = kk
      · subst e1
        rw [me_ll rfl rfl, me_dd rfl rfl, s2]
        exact ⟨f2, by have := (a3 k hk).2; omega⟩
      · rw [me_ln (by omega), me_lc (by omega), me_dn (by omega), me_dc (by omega)]
        exact ⟨(a3 k hk).1, Nat.le_trans (a3 k hk).2 (Nat.mul_le_mul_right _ (by omega))⟩
    · rw [me_di, me_di]; exact c2
    · rw [me_li, me_li]; exact c3
    · rw [me_di, me_di, me_li, me_li]; exact c4 i hi
/-- can it be paid -/
theorem meansB {u e r : Nat} {K N : rd_M} (h : qR u e K N) (hr : r < 4) {k y : Int32} {a : UInt64} {b : Int64} (hc : f_N_cost N (nI r) k y = some b) (hab : fq_D b.toInt a) : f_N_canPay N (nI r) k y = some (if b.toInt ≤ ((N 2).2.1 r).toInt then 1 else 0) ∧ f_K_requireMeans K (nI r) a = (if b.toInt ≤ ((N 2).2.1 r).toInt then some (.inr ()) else some (.inl "java/lang/IllegalStateException")) ∧ (0 ≤ Op.cmpValue (FP.dcmp ((K (3 + 3 * r)).2.2 2) a) .g) = (b.toInt ≤ ((N 2).2.1 r).toInt) := by
  have bD := (h.2.2.2.1 r hr).1.1
  refine ⟨?_, ?_, cv_ge bD hab⟩
  · unfold f_N_canPay
    rw [if_pos (ri hr (by decide)), hc, fe_bind, fe_k, ev_c (by omega)]
    simp only [lg_cmp_lt, Int64.lt_iff_toInt_lt]
    by_cases hz : b.toInt ≤ ((N 2).2.1 r).toInt
    · rw [if_pos hz, if_neg (by omega)]
    · rw [if_neg hz, if_pos (by omega)]
  · unfold f_K_requireMeans
    rw [if_pos (ri hr (by decide)), ev_c (by omega)]
    simp only [cv_ge bD hab]
/-- the reference's payment, with and without a grace -/
theorem payN {N : rd_M} {r d g : Nat} {k y : Int32} {kk : Nat} {b : Int64} (hc : f_N_cost N (nI r) k y = some b) (hr : r < 4) (hk : k = nI kk) (hkk : kk < 4) (hd : d < 10) {G : Int32} (hG : G = nI g) (hg : g < 5) : f_N_pay N (nI r) k y (nI d) G = some (rd_iU (rd_lU (rd_lU (rd_lU N 2 r ((N 2).2.1 r - b)) 3 (4 * r + kk) ((N 3).2.1 (4 * r + kk) + b)) 20 (5 * d + g) b) 21 (5 * d + g) ((N 0).1 1 + (if G = 4 then 4 else 3))) := by
  unfold f_N_pay
  subst hk
  have i4 : (4 * nI r) + nI kk = nI (4 * r + kk) := by rw [em4, nI_add]
  have i5 : (5 * nI d) + G = nI (5 * d + g) := by rw [hG, em5, nI_add]
  rw [hc, fe_bind, i4, i5, if_pos (ri hr (by decide)), if_pos (ri hr (by decide)), fe_k, if_pos (ri (show 4 * r + kk < 16 by omega) (by decide)), if_pos (ri (show 4 * r + kk < 16 by omega) (by decide)), fe_k, if_pos (show 0 ≤ G by rw [hG]; exact nI_pos' (by omega)), if_pos (ri (show 5 * d + g < 50 by omega) (by decide)), fe_k, fe_k, if_pos (ri (show 5 * d + g < 50 by omega) (by decide)), fe_k, ev_c (show r < 2 ^ 31 by omega), ev_c (show 4 * r + kk < 2 ^ 31 by omega), ev_c (show 5 * d + g < 2 ^ 31 by omega)]
  rw [me_lc (show 3 ≠ 2 by decide)]
  simp only [me_li]
theorem payN0 {N : rd_M} {r : Nat} {k y D : Int32} {kk : Nat} {b : Int64} (hc : f_N_cost N (nI r) k y = some b) (hr : r < 4) (hk : k = nI kk) (hkk : kk < 4) : f_N_pay N (nI r) k y D (-1) = some (rd_lU (rd_lU N 2 r ((N 2).2.1 r - b)) 3 (4 * r + kk) ((N 3).2.1 (4 * r + kk) + b)) := by
  unfold f_N_pay
  subst hk
  have i4 : (4 * nI r) + nI kk = nI (4 * r + kk) := by rw [em4, nI_add]
  rw [hc, fe_bind, i4, if_pos (ri hr (by decide)), if_pos (ri hr (by decide)), fe_k, if_pos (ri (show 4 * r + kk < 16 by omega) (by decide)), if_pos (ri (show 4 * r + kk < 16 by omega) (by decide)), fe_k, if_neg (by decide), ev_c (show r < 2 ^ 31 by omega), ev_c (show 4 * r + kk < 2 ^ 31 by omega)]
  rw [me_lc (show 3 ≠ 2 by decide)]
