/-! the zone -/
def qnth (f : Nat → Bool) (j : Nat) : Nat → Nat
  | 0 => 0
  | n + 1 => if f n = true ∧ qcnt f n = j then n else qnth f j n
theorem qcnt_mono {f : Nat → Bool} {a : Nat} (k : Nat) : qcnt f a ≤ qcnt f (a + k) := by
  induction k with
  | zero => exact Nat.le_refl _
  | succ k ih => rw [show a + (k + 1) = (a + k) + 1 by omega, qcnt_s]; omega
theorem qcnt_lt {f : Nat → Bool} {a b : Nat} (h : a < b) (ha : f a = true) : qcnt f a < qcnt f b := by
  have h1 := qcnt_mono (f := f) (a := a + 1) (b - (a + 1))
  rw [show a + 1 + (b - (a + 1)) = b by omega, qcnt_s, if_pos ha] at h1
  omega
theorem qnth_eq {f : Nat → Bool} {j h : Nat} (hf : f h = true) (hj : qcnt f h = j) : ∀ n, h < n → qnth f j n = h := by
  intro n
  induction n with
  | zero => intro z; omega
  | succ n ih =>
    intro hn
    show (if f n = true ∧ qcnt f n = j then n else qnth f j n) = h
    by_cases e : f n = true ∧ qcnt f n = j
    · rw [if_pos e]
      by_cases e1 : h < n
      · have := qcnt_lt e1 hf; omega
      · omega
    · rw [if_neg e]
      by_cases e1 : h = n
      · subst e1; exact absurd ⟨hf, hj⟩ e
      · exact ih (by omega)
theorem qcnt_find {f : Nat → Bool} {m : Nat} : ∀ n, m < qcnt f n → ∃ h, h < n ∧ f h = true ∧ qcnt f h = m := by
  intro n
  induction n with
  | zero => intro z; exact absurd z (Nat.not_lt_zero _)
  | succ n ih =>
    intro hm
    by_cases e : m < qcnt f n
    · obtain ⟨h, h1, h2⟩ := ih e
      exact ⟨h, by omega, h2⟩
    · rw [qcnt_s] at hm
      by_cases e1 : f n = true
      · rw [if_pos e1] at hm
        exact ⟨n, by omega, e1, by omega⟩
      · rw [if_neg e1] at hm; omega
theorem lp_cntA {z : Int32 → Int32 → Option Int32} {lb : (Int32 → Int32 → Option Int32) → Int32 → Int32 → Option Int32} {n s : Nat} (f : Nat → Bool) (hn : n < 63) (step : ∀ i, i < n → ∀ (a : Int32) rec, lb rec (nI i) a = rec (nI (i + 1)) (if f i = true then a + 1 else a)) (last : ∀ (a : Int32) rec, lb rec (nI n) a = some a) : rd_it z lb 64 0 (nI s) = some (nI (s + qcnt f n)) := by
  obtain ⟨a, ha, e⟩ := lp_run (z := z) (lb := lb) (n := n) (fun i a => if f i = true then a + 1 else a) (fun i a => a = nI (s + qcnt f i)) (fun i hi a hP => ⟨by
    rw [hP, qcnt_s]
    by_cases e : f i = true
    · rw [if_pos e, if_pos e, ea1]; rfl
    · rw [if_neg e, if_neg e]; rfl, fun rec => step i hi a rec⟩) n 0 64 (nI s) (by omega) rfl (by omega)
  exact e.trans (by rw [last, ha])
/-- a loop of the reference that looks for the place kk among the hosts' names -/
theorem r62 {N : rd_M} {d s n kk : Nat} {k : Int32} {Kf : Int32 → Int32 → Option Int32} (hd : d < 10) (hs : s ≤ 3) (hn : n ≤ 900) (hk : ∀ m, m ≤ 1000 → (nI m = k ↔ m = kk)) : ∀ (r i fu : Nat), i + r = s → r < fu → rd_it (fun _ _ => none) (lb_N_row_62 N (nI s) (nI d) k Kf) fu (nI i) (nI (n + i)) = if n + i ≤ kk ∧ kk < n + s then some (1000 * nI d + (N 18).1 (6 * d + 3 * 1 + (kk - n))) else Kf (nI s) (nI (n + s)) := by
  intro r
  induction r with
  | zero =>
    intro i fu hi hf
    obtain ⟨f, rfl⟩ : ∃ f, fu = f + 1 := ⟨fu - 1, by omega⟩
    obtain rfl : i = s := by omega
    rw [rd_it_s, if_neg (by omega)]
    unfold lb_N_row_62
    rw [if_pos (nI_le (Nat.le_refl _) (by omega))]
  | succ r ih =>
    intro i fu hi hf
    obtain ⟨f, rfl⟩ : ∃ f, fu = f + 1 := ⟨fu - 1, by omega⟩
    have e0 : rd_it (fun _ _ => none) (lb_N_row_62 N (nI s) (nI d) k Kf) (f + 1) (nI i) (nI (n + i)) = if nI (n + i) = k then some (1000 * nI d + (N 18).1 (6 * d + 3 * 1 + i)) else rd_it (fun _ _ => none) (lb_N_row_62 N (nI s) (nI d) k Kf) f (nI (i + 1)) (nI (n + (i + 1))) := by
      have j3 : ((6 * nI d) + 3) + nI i = nI (6 * d + 3 * 1 + i) := by rw [em6, ea3, nI_add]
      rw [rd_it_s]
      show lb_N_row_62 N (nI s) (nI d) k Kf (rd_it (fun _ _ => none) (lb_N_row_62 N (nI s) (nI d) k Kf) f) (nI i) (nI (n + i)) = _
      generalize rd_it (fun _ _ => none) (lb_N_row_62 N (nI s) (nI d) k Kf) f = rec
      unfold lb_N_row_62
      rw [if_neg (nI_ge (by omega) (by omega)), j3, if_pos (ri (show 6 * d + 3 * 1 + i < 60 by omega) (by decide)), ev_c (show 6 * d + 3 * 1 + i < 2 ^ 31 by omega), ea1, ea1]
      rfl
    rw [e0]
    by_cases e1 : n + i = kk
    · rw [if_pos ((hk (n + i) (by omega)).mpr e1), if_pos (by omega), show kk - n = i by omega]
    · rw [if_neg (fun z => e1 ((hk (n + i) (by omega)).mp z)), ih (i + 1) f (by omega) (by omega)]
      by_cases e2 : n + i ≤ kk ∧ kk < n + s
      · rw [if_pos e2, if_pos (by omega)]
      · rw [if_neg e2, if_neg (by omega)]
/-- .. and among the addresses -/
theorem r107 {N : rd_M} {d c n kk : Nat} {q k : Int32} {Kf : Int32 → Int32 → Option Int32} {f : Nat → Bool} (hc : c ≤ 8) (hn : n ≤ 910) (hk : ∀ m, m ≤ 1000 → (nI m = k ↔ m = kk)) (step : ∀ i, i < c → ∀ v rec, lb_N_row_107 N q (nI d) k Kf rec (nI i) v = if f i = true then (if v = k then some (((1000 * nI d) + 100) + nI i) else rec (nI (i + 1)) (v + 1)) else rec (nI (i + 1)) v) (last : ∀ v rec, lb_N_row_107 N q (nI d) k Kf rec (nI c) v = Kf (nI c) v) : ∀ (r i fu : Nat), i + r = c → r < fu → rd_it (fun _ _ => none) (lb_N_row_107 N q (nI d) k Kf) fu (nI i) (nI (n + qcnt f i)) = if n + qcnt f i ≤ kk ∧ kk < n + qcnt f c then some (((1000 * nI d) + 100) + nI (qnth f (kk - n) c)) else Kf (nI c) (nI (n + qcnt f c)) := by
  intro r
  induction r with
  | zero =>
    intro i fu hi hf
    obtain ⟨fu, rfl⟩ : ∃ f, fu = f + 1 := ⟨fu - 1, by omega⟩
    obtain rfl : i = c := by omega
    rw [rd_it_s, last, if_neg (by omega)]
  | succ r ih =>
    intro i fu hi hf
    obtain ⟨fu, rfl⟩ : ∃ f, fu = f + 1 := ⟨fu - 1, by omega⟩
    have hq := qcnt_le f i
    rw [rd_it_s, step i (by omega)]
    have ih1 := ih (i + 1) fu (by omega) (by omega)
    rw [qcnt_s] at ih1
    by_cases e : f i = true
    · rw [if_pos e] at ih1 ⊢
      by_cases e1 : n + qcnt f i = kk
      · have h1 := qcnt_lt (b := c) (show i < c by omega) e
        rw [if_pos ((hk _ (by omega)).mpr e1), if_pos (by omega), qnth_eq e (by omega) c (by omega)]
      · rw [if_neg (fun z => e1 ((hk _ (by omega)).mp z)), ea1, show n + qcnt f i + 1 = n + (qcnt f i + 1) by omega, ih1]
        by_cases e2 : n + qcnt f i ≤ kk ∧ kk < n + qcnt f c
        · rw [if_pos e2, if_pos (by omega)]
        · rw [if_neg e2, if_neg (by omega)]
    · rw [if_neg e] at ih1 ⊢
      exact ih1

