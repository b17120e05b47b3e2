/-! numbers -/
theorem ev_n {n : Nat} (h : n < 2 ^ 31) : (nI n < 0) = False := eq_false (nI_pos h)
theorem ev_c {n : Nat} (h : n < 2 ^ 31) : (nI n).toNatClampNeg = n := nI_clamp h
theorem ev_ge {n N : Nat} (h : n < N) : (N ≤ n) = False := eq_false (Nat.not_le.mpr h)
theorem em_mul (a b : Nat) : nI a * nI b = nI (a * b) := (Int32.ofNat_mul a b).symm
theorem em2 {n : Nat} : (2 : Int32) * nI n = nI (2 * n) := em_mul 2 n
theorem em3 {n : Nat} : (3 : Int32) * nI n = nI (3 * n) := em_mul 3 n
theorem em4 {n : Nat} : (4 : Int32) * nI n = nI (4 * n) := em_mul 4 n
theorem em5 {n : Nat} : (5 : Int32) * nI n = nI (5 * n) := em_mul 5 n
theorem em6 {n : Nat} : (6 : Int32) * nI n = nI (6 * n) := em_mul 6 n
theorem em12 {n : Nat} : (12 : Int32) * nI n = nI (12 * n) := em_mul 12 n
theorem ea0 {n : Nat} : nI n + (0 : Int32) = nI n := nI_add n 0
theorem ea1 {n : Nat} : nI n + (1 : Int32) = nI (n + 1) := nI_add n 1
theorem ea2 {n : Nat} : nI n + (2 : Int32) = nI (n + 2) := nI_add n 2
theorem ea3 {n : Nat} : nI n + (3 : Int32) = nI (n + 3) := nI_add n 3
theorem ea4 {n : Nat} : nI n + (4 : Int32) = nI (n + 4) := nI_add n 4
theorem es1 {n : Nat} : nI (n + 1) - (1 : Int32) = nI n := nI_pred n
theorem el_0 {n : Nat} (h : n < 2 ^ 31) : (nI n ≤ 0) = (n = 0) := by
  have e := nI_leI (a := n) (b := 0) h (by omega)
  exact propext (e.trans (by omega))
theorem el_n0 {n : Nat} (h : n < 2 ^ 31) : (0 ≤ nI n) = True := eq_true (nI_pos' h)
theorem el4 {n : Nat} (h : n < 2 ^ 31) : ((4 : Int32) ≤ nI n) = (4 ≤ n) := propext (nI_leI (a := 4) (by omega) h)
theorem el5 {n : Nat} (h : n < 2 ^ 31) : ((5 : Int32) ≤ nI n) = (5 ≤ n) := propext (nI_leI (a := 5) (by omega) h)
theorem el8 {n : Nat} (h : n < 2 ^ 31) : ((8 : Int32) ≤ nI n) = (8 ≤ n) := propext (nI_leI (a := 8) (by omega) h)
theorem el10 {n : Nat} (h : n < 2 ^ 31) : ((10 : Int32) ≤ nI n) = (10 ≤ n) := propext (nI_leI (a := 10) (by omega) h)
theorem el3 {n : Nat} (h : n < 2 ^ 31) : ((3 : Int32) ≤ nI n) = (3 ≤ n) := propext (nI_leI (a := 3) (by omega) h)
theorem el12 {n : Nat} (h : n < 2 ^ 31) : (nI n < (12 : Int32)) = (n < 12) := propext (nI_ltI (b := 12) h (by omega))
theorem eq12 {n : Nat} (h : n < 2 ^ 31) : (nI n = (12 : Int32)) = (n = 12) := propext (nI_eq (b := 12) h (by omega))
theorem elt8 {n : Nat} (h : n < 2 ^ 31) : (nI n < (8 : Int32)) = (n < 8) := propext (nI_ltI (b := 8) h (by omega))
theorem eq8 {n : Nat} (h : n < 2 ^ 31) : (nI n = (8 : Int32)) = (n = 8) := propext (nI_eq (b := 8) h (by omega))
theorem elt3 {n : Nat} (h : n < 2 ^ 31) : (nI n < (3 : Int32)) = (n < 3) := propext (nI_ltI (b := 3) h (by omega))
theorem eq3 {n : Nat} (h : n < 2 ^ 31) : (nI n = (3 : Int32)) = (n = 3) := propext (nI_eq (b := 3) h (by omega))
theorem eq0 {n : Nat} (h : n < 2 ^ 31) : (nI n = (0 : Int32)) = (n = 0) := propext (nI_eq (b := 0) h (by omega))
theorem eq1 {n : Nat} (h : n < 2 ^ 31) : (nI n = (1 : Int32)) = (n = 1) := propext (nI_eq (b := 1) h (by omega))
theorem em1 {n : Nat} (h : n < 2 ^ 31) : (nI n = (-1 : Int32)) = False := eq_false (fun e => by
  have := nI_pos' h
  rw [e] at this
  exact absurd this (by decide))
theorem eII {a b : Nat} (ha : a < 2 ^ 31) (hb : b < 2 ^ 31) : (nI a = nI b) = (a = b) := propext (nI_eq ha hb)
theorem eLL {a b : Nat} (ha : a < 2 ^ 31) (hb : b < 2 ^ 31) : (nI a ≤ nI b) = (a ≤ b) := propext (nI_leI ha hb)
/-- a number in a range is a small one -/
theorem rg_of {p hi : Int32} {n : Nat} (hn : hi.toInt = n) (h : 0 ≤ p ∧ p ≤ hi) : ∃ r, r ≤ n ∧ p = nI r := nI_of2 hn (fun z => absurd (Int32.le_iff_toInt_le.mp h.1) (by have := Int32.lt_iff_toInt_lt.mp z; omega)) h.2
/-! reading a memory behind writes -/
theorem me_ii {M : rd_M} {c j a b : Nat} {v : Int32} (h1 : a = c) (h2 : b = j) : (rd_iU M c j v a).1 b = v := by
  subst h1; subst h2; simp [rd_iU, va_up]
theorem me_in {M : rd_M} {c j a b : Nat} {v : Int32} (h : ¬ (a = c ∧ b = j)) : (rd_iU M c j v a).1 b = (M a).1 b := by
  by_cases e : a = c
  · subst e
    have : ¬ b = j := fun z => h ⟨rfl, z⟩
    simp [rd_iU, va_up, this]
  · simp [rd_iU, va_up, e]
theorem me_il {M : rd_M} {c j a : Nat} {v : Int32} : (rd_iU M c j v a).2 = (M a).2 := by
  by_cases e : a = c
  · subst e; simp [rd_iU, va_up]
  · simp [rd_iU, va_up, e]
theorem me_li {M : rd_M} {c j a : Nat} {v : Int64} : (rd_lU M c j v a).1 = (M a).1 := by
  by_cases e : a = c
  · subst e; simp [rd_lU, va_up]
  · simp [rd_lU, va_up, e]
theorem me_ld {M : rd_M} {c j a : Nat} {v : Int64} : (rd_lU M c j v a).2.2 = (M a).2.2 := by
  by_cases e : a = c
  · subst e; simp [rd_lU, va_up]
  · simp [rd_lU, va_up, e]
theorem me_ll {M : rd_M} {c j a b : Nat} {v : Int64} (h1 : a = c) (h2 : b = j) : (rd_lU M c j v a).2.1 b = v := by
  subst h1; subst h2; simp [rd_lU, va_up]
theorem me_ln {M : rd_M} {c j a b : Nat} {v : Int64} (h : ¬ (a = c ∧ b = j)) : (rd_lU M c j v a).2.1 b = (M a).2.1 b := by
  by_cases e : a = c
  · subst e
    have : ¬ b = j := fun z => h ⟨rfl, z⟩
    simp [rd_lU, va_up, this]
  · simp [rd_lU, va_up, e]
theorem me_di {M : rd_M} {c j a : Nat} {v : UInt64} : (rd_dU M c j v a).1 = (M a).1 := by
  by_cases e : a = c
  · subst e; simp [rd_dU, va_up]
  · simp [rd_dU, va_up, e]
theorem me_dl {M : rd_M} {c j a : Nat} {v : UInt64} : (rd_dU M c j v a).2.1 = (M a).2.1 := by
  by_cases e : a = c
  · subst e; simp [rd_dU, va_up]
  · simp [rd_dU, va_up, e]
theorem me_dd {M : rd_M} {c j a b : Nat} {v : UInt64} (h1 : a = c) (h2 : b = j) : (rd_dU M c j v a).2.2 b = v := by
  subst h1; subst h2; simp [rd_dU, va_up]
theorem me_dn {M : rd_M} {c j a b : Nat} {v : UInt64} (h : ¬ (a = c ∧ b = j)) : (rd_dU M c j v a).2.2 b = (M a).2.2 b := by
  by_cases e : a = c
  · subst e
    have : ¬ b = j := fun z => h ⟨rfl, z⟩
    simp [rd_dU, va_up, this]
  · simp [rd_dU, va_up, e]
theorem me_ic {M : rd_M} {c j a : Nat} {v : Int32} (h : a ≠ c) : rd_iU M c j v a = M a := by simp [rd_iU, va_up, h]
theorem me_lc {M : rd_M} {c j a : Nat} {v : Int64} (h : a ≠ c) : rd_lU M c j v a = M a := by simp [rd_lU, va_up, h]
theorem me_dc {M : rd_M} {c j a : Nat} {v : UInt64} (h : a ≠ c) : rd_dU M c j v a = M a := by simp [rd_dU, va_up, h]
/-! the words of the functions -/
theorem fe_k {α β : Type} (x : α) (f : α → β) : rd_k x f = f x := rfl
theorem fe_bl {α β : Type} {E : String} {f : α → Option (String ⊕ β)} : rd_b (some (.inl E)) f = some (.inl E) := rfl
theorem fe_br {α β : Type} {v : α} {f : α → Option (String ⊕ β)} : rd_b (some (.inr v)) f = f v := rfl
theorem fe_bind {α β : Type} {v : α} {f : α → Option β} : (some v).bind f = f v := rfl
theorem f_in (M : rd_M) (p a b : Int32) : f_N_in M p a b = some (if a ≤ p ∧ p ≤ b then 1 else 0) := by
  unfold f_N_in
  by_cases h1 : p < a
  · rw [if_pos h1, if_neg (fun z => by
      have e1 := Int32.lt_iff_toInt_lt.mp h1
      have e2 := Int32.le_iff_toInt_le.mp z.1
      omega)]
  · have h2 : a ≤ p := by
      have e1 := mt Int32.lt_iff_toInt_lt.mpr h1
      exact Int32.le_iff_toInt_le.mpr (by omega)
    rw [if_neg h1, fe_k]
    by_cases h3 : b < p
    · rw [if_pos h3, if_neg (fun z => by
        have e1 := Int32.lt_iff_toInt_lt.mp h3
        have e2 := Int32.le_iff_toInt_le.mp z.2
        omega)]
    · rw [if_neg h3, if_pos ⟨h2, by
        have e1 := mt Int32.lt_iff_toInt_lt.mpr h3
        exact Int32.le_iff_toInt_le.mpr (by omega)⟩]
theorem f_rr (M : rd_M) (p a b : Int32) : f_K_requireRange M p a b = if a ≤ p ∧ p ≤ b then some (.inr ()) else some (.inl "java/lang/IllegalArgumentException") := by
  unfold f_K_requireRange
  by_cases h1 : p < a
  · rw [if_pos h1, if_neg (fun z => by
      have e1 := Int32.lt_iff_toInt_lt.mp h1
      have e2 := Int32.le_iff_toInt_le.mp z.1
      omega)]
  · have h2 : a ≤ p := by
      have e1 := mt Int32.lt_iff_toInt_lt.mpr h1
      exact Int32.le_iff_toInt_le.mpr (by omega)
    rw [if_neg h1]
    by_cases h3 : p ≤ b
    · rw [if_pos h3, if_pos ⟨h2, h3⟩]
    · rw [if_neg h3, if_neg (fun z => h3 z.2)]
theorem f_reg (M : rd_M) (p : Int32) : f_K_requireRegistrar M p = if 0 ≤ p ∧ p ≤ 3 then some (.inr ()) else some (.inl "java/lang/IllegalArgumentException") := by
  unfold f_K_requireRegistrar
  rw [f_rr]
  by_cases h : 0 ≤ p ∧ p ≤ 3
  · rw [if_pos h]; rfl
  · rw [if_neg h]; rfl
theorem f_nam (M : rd_M) (p : Int32) : f_K_requireName M p = if 0 ≤ p ∧ p ≤ 9 then some (.inr ()) else some (.inl "java/lang/IllegalArgumentException") := by
  unfold f_K_requireName
  rw [f_rr]
  by_cases h : 0 ≤ p ∧ p ≤ 9
  · rw [if_pos h]; rfl
  · rw [if_neg h]; rfl
theorem f_fail (M : rd_M) (c : Int32) : f_N_fail M c = some (0, rd_iU M 0 0 c) := rfl
theorem f_give (M : rd_M) (v : Int32) : f_N_give M v = some (v, rd_iU M 0 0 0) := rfl
/-! loops that count: 0, 1, .. n - 1 -/
theorem lp_run {α ρ : Type} {z : Int32 → α → Option ρ} {lb : (Int32 → α → Option ρ) → Int32 → α → Option ρ} {n : Nat} (g : Nat → α → α) (P : Nat → α → Prop) (step : ∀ i, i < n → ∀ a, P i a → P (i + 1) (g i a) ∧ ∀ rec, lb rec (nI i) a = rec (nI (i + 1)) (g i a)) :
    ∀ (k i : Nat) (fu : Nat) (a : α), i + k = n → P i a → k < fu → ∃ a', P n a' ∧ rd_it z lb fu (nI i) a = lb (rd_it z lb (fu - k - 1)) (nI n) a' := by
  intro k
  induction k with
  | zero =>
    intro i fu a hi hP hf
    obtain rfl : i = n := by omega
    obtain ⟨f, rfl⟩ : ∃ f, fu = f + 1 := ⟨fu - 1, by omega⟩
    exact ⟨a, hP, by rw [rd_it_s]; congr 1⟩
  | succ k ih =>
    intro i fu a hi hP hf
    obtain ⟨f, rfl⟩ : ∃ f, fu = f + 1 := ⟨fu - 1, by omega⟩
    obtain ⟨h1, h2⟩ := step i (by omega) a hP
    obtain ⟨a', h3, h4⟩ := ih (i + 1) f (g i a) (by omega) h1 (by omega)
    refine ⟨a', h3, ?_⟩
    rw [rd_it_s, h2, h4]
    congr 2
    omega
/-- the same with a relation to another loop, side by side -/
theorem lp_two {α β ρ σ : Type} {z : Int32 → α → Option ρ} {lb : (Int32 → α → Option ρ) → Int32 → α → Option ρ} {z2 : Int32 → β → Option σ} {lb2 : (Int32 → β → Option σ) → Int32 → β → Option σ} {n : Nat} (P : Nat → α → β → Prop) (step : ∀ i, i < n → ∀ a b, P i a b → ∃ a' b', P (i + 1) a' b' ∧ (∀ rec, lb rec (nI i) a = rec (nI (i + 1)) a') ∧ ∀ rec, lb2 rec (nI i) b = rec (nI (i + 1)) b') :
    ∀ (k i : Nat) (fu fv : Nat) (a : α) (b : β), i + k = n → P i a b → k < fu → k < fv → ∃ a' b', P n a' b' ∧ rd_it z lb fu (nI i) a = lb (rd_it z lb (fu - k - 1)) (nI n) a' ∧ rd_it z2 lb2 fv (nI i) b = lb2 (rd_it z2 lb2 (fv - k - 1)) (nI n) b' := by
  intro k
  induction k with
  | zero =>
    intro i fu fv a b hi hP hf hg
    obtain rfl : i = n := by omega
    obtain ⟨f, rfl⟩ : ∃ f, fu = f + 1 := ⟨fu - 1, by omega⟩
    obtain ⟨f2, rfl⟩ : ∃ f, fv = f + 1 := ⟨fv - 1, by omega⟩
    exact ⟨a, b, hP, by rw [rd_it_s]; congr 1, by rw [rd_it_s]; congr 1⟩
  | succ k ih =>
    intro i fu fv a b hi hP hf hg
    obtain ⟨f, rfl⟩ : ∃ f, fu = f + 1 := ⟨fu - 1, by omega⟩
    obtain ⟨f2, rfl⟩ : ∃ f, fv = f + 1 := ⟨fv - 1, by omega⟩
    obtain ⟨a1, b1, h1, h2, h2'⟩ := step i (by omega) a b hP
    obtain ⟨a', b', h3, h4, h4'⟩ := ih (i + 1) f f2 a1 b1 (by omega) h1 (by omega) (by omega)
    refine ⟨a', b', h3, ?_, ?_⟩
    · rw [rd_it_s, h2, h4]
      congr 2
      omega
    · rw [rd_it_s, h2', h4']
      congr 2
      omega
