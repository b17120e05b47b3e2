/-! doubles that are whole 64ths: what the operations give, exactly -/
/-- 2^k times a datum -/
def fq_sh (k : Int) : FP.Core.Datum → FP.Core.Datum
  | .fin s c q => .fin s c (q + k)
  | d => d
/-- the double a is i / 64 -/
def fq_D (i : Int) (a : UInt64) : Prop := FP.Core.Whole i (fq_sh 6 (FP.Core.val64 a))
theorem fq_down {i : Int} {s : Bool} {c : Nat} {q : Int} (n : Nat) (h : FP.Core.Whole (i * ((2 ^ n : Nat) : Int)) (.fin s c (q + n))) : FP.Core.Whole i (.fin s c q) := by
  have h1 : FP.Core.signed s (c * 2 ^ (q + n).toNat) = i * ((2 ^ n : Nat) : Int) * ((2 ^ (-(q + n)).toNat : Nat) : Int) := h
  show FP.Core.signed s (c * 2 ^ q.toNat) = i * ((2 ^ (-q).toNat : Nat) : Int)
  rw [FP.Core.signed_mul] at h1 ⊢
  have hp : ((2 ^ (q + n).toNat : Nat) : Int) ≠ 0 := by
    have := Nat.two_pow_pos (q + n).toNat; omega
  have hp2 : ((2 ^ (-(q + n)).toNat : Nat) : Int) ≠ 0 := by
    have := Nat.two_pow_pos (-(q + n)).toNat; omega
  refine Int.eq_of_mul_eq_mul_right hp (Int.eq_of_mul_eq_mul_right hp2 ?_)
  have hx : (q + n).toNat + (-q).toNat = q.toNat + (-(q + n)).toNat + n := by omega
  have e : ((2 ^ (q + n).toNat : Nat) : Int) * ((2 ^ (-q).toNat : Nat) : Int) = ((2 ^ q.toNat : Nat) : Int) * ((2 ^ (-(q + n)).toNat : Nat) : Int) * ((2 ^ n : Nat) : Int) := by
    rw [← Int.natCast_mul, ← Int.natCast_mul, ← Int.natCast_mul, ← Nat.pow_add, ← Nat.pow_add, ← Nat.pow_add, hx]
  generalize ((2 ^ (q + n).toNat : Nat) : Int) = a1 at *
  generalize ((2 ^ (-(q + n)).toNat : Nat) : Int) = a2 at *
  generalize ((2 ^ q.toNat : Nat) : Int) = a3 at *
  generalize ((2 ^ (-q).toNat : Nat) : Int) = a4 at *
  generalize ((2 ^ n : Nat) : Int) = a5 at *
  generalize FP.Core.signed s c = a6 at *
  calc a6 * a3 * a1 * a2 = (a6 * a1) * (a3 * a2) := by ac_rfl
    _ = (i * a5 * a2) * (a3 * a2) := by rw [h1]
    _ = i * (a3 * a2 * a5) * a2 := by ac_rfl
    _ = i * (a1 * a4) * a2 := by rw [e]
    _ = i * a4 * a1 * a2 := by ac_rfl
/-- the rounding of i / 64 is i / 64 -/
theorem fq_rr {i : Int} {s : Bool} (hi : i.natAbs ≤ 2 ^ 53) (hs : i ≠ 0 → s = decide (i < 0)) : FP.Core.Whole i (fq_sh 6 (FP.Core.roundRatio FP.Core.b64 s i.natAbs 1 (-6))) := by
  by_cases hi0 : i = 0
  · subst hi0
    show FP.Core.signed s (0 * _) = 0 * _
    rw [Nat.zero_mul, Int.zero_mul, FP.Core.signed_zero]
  · obtain ⟨c', q', hfit, hv⟩ := FP.Core.natFit FP.Core.good_b64 FP.Core.wide_b64 s (n := i.natAbs) hi
    have hm : FP.Core.b64.qmin = -1074 := by decide
    have hq6 : -60 ≤ q' := by
      rcases Int.lt_or_le q' (-60) with hlt | hge
      · exfalso
        have e1 : (q' - 0).toNat = 0 := by omega
        have e2 : 60 ≤ (0 - q').toNat := by omega
        have e3 : 2 ^ 60 ≤ 2 ^ (0 - q').toNat := Nat.pow_le_pow_right (by decide) e2
        have e4 : 1 ≤ i.natAbs := by omega
        have e5 : 2 ^ (0 - q').toNat ≤ i.natAbs * 2 ^ (0 - q').toNat := Nat.le_mul_of_pos_left _ e4
        rw [e1, Nat.pow_zero, Nat.mul_one, Nat.mul_one] at hv
        have e6 : c' < 2 ^ 53 := hfit.1
        rw [hv] at e5
        have e7 : (2 : Nat) ^ 53 < 2 ^ 60 := by decide
        exact absurd (Nat.lt_of_lt_of_le e7 (Nat.le_trans e3 e5)) (Nat.not_lt.mpr (Nat.le_of_lt e6))
      · exact hge
    have hfit2 : FP.Core.fits FP.Core.b64 (.fin s c' (q' - 6)) := ⟨hfit.1, by omega, by have := hfit.2.2.1; omega, Or.inr (by
      rcases hfit.2.2.2 with h | h
      · omega
      · exact h)⟩
    rw [FP.Core.roundRatio_exact FP.Core.good_b64 (by decide) hfit2 (by
      rw [show (-6 - (q' - 6)).toNat = (0 - q').toNat by omega, show (q' - 6 - -6).toNat = (q' - 0).toNat by omega]; exact hv)]
    show FP.Core.signed s (c' * 2 ^ (q' - 6 + 6).toNat) = i * ((2 ^ (-(q' - 6 + 6)).toNat : Nat) : Int)
    rw [show q' - 6 + 6 = q' by omega]
    rw [show (0 - q').toNat = (-q').toNat by omega, show (q' - 0).toNat = q'.toNat by omega, Nat.mul_one] at hv
    rw [← hv, FP.Core.signed_mul]
    congr 1
    rw [hs hi0]
    unfold FP.Core.signed
    by_cases h : i < 0 <;> simp [h] <;> omega
theorem fq_round {i : Int} {d : FP.Core.Datum} (hi : i.natAbs ≤ 2 ^ 53) (h : FP.Core.Whole i (fq_sh 6 d)) : FP.Core.Whole i (fq_sh 6 (FP.Core.round FP.Core.b64 d)) := by
  cases d with
  | nan => exact h.elim
  | inf => exact h.elim
  | fin s c q =>
    have h0 : FP.Core.Whole i (.fin s c (q + 6)) := h
    have hn := FP.Core.whole_natAbs h0
    have hr : FP.Core.round FP.Core.b64 (.fin s c q) = FP.Core.roundRatio FP.Core.b64 s i.natAbs 1 (-6) := by
      refine FP.Core.roundRatio_congr (by decide) (by decide) ?_
      rw [show (q - -6).toNat = (q + 6).toNat by omega, show (-6 - q).toNat = (-(q + 6)).toNat by omega]
      simpa using hn
    rw [hr]
    exact fq_rr hi (fun z => FP.Core.whole_sign h0 z)
theorem fq_units (c : Nat) (q r : Int) : FP.Core.inUnits c (q + 6) (r + 6) = FP.Core.inUnits c q r := by
  unfold FP.Core.inUnits
  rw [show q + 6 - (r + 6) = q - r by omega]
theorem fq_sum {i j : Int} {x y : FP.Core.Datum} (hx : FP.Core.Whole i (fq_sh 6 x)) (hy : FP.Core.Whole j (fq_sh 6 y)) : FP.Core.Whole (i + j) (fq_sh 6 (FP.Core.exactSum x y)) := by
  have h := FP.Core.whole_sum hx hy
  cases x with
  | nan => exact hx.elim
  | inf => exact hx.elim
  | fin s c q =>
  cases y with
  | nan => exact hy.elim
  | inf => exact hy.elim
  | fin t d r =>
    have hm : min (q + 6) (r + 6) = min q r + 6 := by omega
    have e : fq_sh 6 (FP.Core.exactSum (.fin s c q) (.fin t d r)) = FP.Core.exactSum (fq_sh 6 (.fin s c q)) (fq_sh 6 (.fin t d r)) := by
      simp only [fq_sh, FP.Core.exactSum, hm, FP.Core.sumUnits, fq_units]
    rw [e]
    exact h
theorem fq_neg {i : Int} {x : FP.Core.Datum} (hx : FP.Core.Whole i (fq_sh 6 x)) : FP.Core.Whole (-i) (fq_sh 6 (FP.Core.negate x)) := by
  have h := FP.Core.whole_negate hx
  cases x <;> exact h
theorem fq_prod {i j : Int} {x y : FP.Core.Datum} (hx : FP.Core.Whole i (fq_sh 6 x)) (hy : FP.Core.Whole j y) : FP.Core.Whole (i * j) (fq_sh 6 (FP.Core.exactProduct x y)) := by
  have h := FP.Core.whole_product hx hy
  cases x with
  | nan => exact hx.elim
  | inf => exact hx.elim
  | fin s c q =>
  cases y with
  | nan => exact hy.elim
  | inf => exact hy.elim
  | fin t d r =>
    have e : fq_sh 6 (FP.Core.exactProduct (.fin s c q) (.fin t d r)) = FP.Core.exactProduct (fq_sh 6 (.fin s c q)) (.fin t d r) := by
      simp only [fq_sh, FP.Core.exactProduct]
      rw [show q + r + 6 = q + 6 + r by omega]
    rw [e]
    exact h
/-- .. and not a NaN -/
theorem fq_nn {i : Int} {a : UInt64} (h : fq_D i a) : vf_n64 a := by
  have h9 : FP.Core.val64 a ≠ .nan := fun z => by
    unfold fq_D at h
    rw [z] at h
    exact h
  unfold vf_n64
  rw [UInt64.le_iff_toNat_le, UInt64.toNat_and]
  have h1 : (0x7fffffffffffffff : UInt64).toNat = 2 ^ 63 - 1 := by decide
  have h2 : (0x7ff0000000000000 : UInt64).toNat = 9218868437227405312 := by decide
  rw [h1, h2, Nat.and_two_pow_sub_one_eq_mod]
  refine Nat.le_of_not_lt fun hlt => h9 ?_
  have e1 : FP.Core.fieldE FP.Core.b64 a.toNat = FP.Core.b64.exps - 1 := by
    show a.toNat / 4503599627370496 % 2048 = 2047
    omega
  have e2 : ¬ FP.Core.fieldT FP.Core.b64 a.toNat = 0 := by
    show ¬ a.toNat % 4503599627370496 = 0
    omega
  unfold FP.Core.val64 FP.Core.decode
  rw [if_pos e1, if_neg e2]
theorem fq_add {i j : Int} {a b : UInt64} (ha : fq_D i a) (hb : fq_D j b) (h : (i + j).natAbs ≤ 2 ^ 53) : fq_D (i + j) (FP.dadd a b) := by
  unfold fq_D
  rw [show FP.Core.val64 (FP.dadd a b) = _ from FP.Core.val64_dadd a b]
  exact fq_round h (fq_sum ha hb)
theorem fq_sub {i j : Int} {a b : UInt64} (ha : fq_D i a) (hb : fq_D j b) (h : (i - j).natAbs ≤ 2 ^ 53) : fq_D (i - j) (FP.dsub a b) := by
  unfold fq_D
  rw [show FP.Core.val64 (FP.dsub a b) = _ from FP.Core.val64_dsub a b]
  exact fq_round h (fq_sum ha (fq_neg hb))
theorem fq_mul {i j : Int} {a b : UInt64} (ha : fq_D i a) (hb : FP.Core.DInt j b) (h : (i * j).natAbs ≤ 2 ^ 53) : fq_D (i * j) (FP.dmul a b) := by
  unfold fq_D
  rw [show FP.Core.val64 (FP.dmul a b) = _ from FP.Core.val64_dmul a b]
  exact fq_round h (fq_prod ha hb)
theorem fq_cmp {i j : Int} {a b : UInt64} (ha : fq_D i a) (hb : fq_D j b) : FP.dcmp a b = some (compare i j) := by
  have h := FP.Core.order_whole ha hb
  show FP.Core.order (FP.Core.val64 a) (FP.Core.val64 b) = _
  unfold fq_D at ha hb
  revert ha hb h
  generalize FP.Core.val64 a = x
  generalize FP.Core.val64 b = y
  intro ha hb h
  cases x with
  | nan => exact ha.elim
  | inf => exact ha.elim
  | fin s c q =>
  cases y with
  | nan => exact hb.elim
  | inf => exact hb.elim
  | fin t d r =>
    have hm : min (q + 6) (r + 6) = min q r + 6 := by omega
    simp only [fq_sh, FP.Core.order, hm, fq_units] at h
    exact h
/-- an amount: a script's int by 0.125 -/
theorem fq_eighth : fq_D 8 4593671619917905920 := by
  unfold fq_D
  rw [show FP.Core.val64 4593671619917905920 = .fin false (2 ^ 52) (-55) by decide +kernel]
  show FP.Core.signed false _ = _
  decide
theorem fq_amount (k : Int32) : fq_D (8 * k.toInt) (FP.dmul (FP.i2d k) 4593671619917905920) := by
  have h1 := k.toInt_lt
  have h2 := k.le_toInt
  have h : (8 * k.toInt).natAbs ≤ 2 ^ 53 := by omega
  unfold fq_D
  rw [show FP.Core.val64 (FP.dmul (FP.i2d k) 4593671619917905920) = _ from FP.Core.val64_dmul _ _, FP.Core.exactProduct_comm]
  exact fq_round h (fq_prod fq_eighth (FP.Core.i2d_int k))
theorem fq_lit {n : UInt64} {c : Nat} {q : Int} {i : Int} (h : FP.Core.val64 n = .fin false c q) (h2 : FP.Core.Whole i (.fin false c (q + 6))) : fq_D i n := by
  unfold fq_D
  rw [h]
  exact h2
theorem fq_zero : fq_D 0 FP.dconst0 := fq_lit (c := 0) (q := -1074) (by decide +kernel) (by show FP.Core.signed false (0 * _) = 0 * _; rw [Nat.zero_mul, Int.zero_mul, FP.Core.signed_zero])
theorem fq_one : fq_D 64 FP.dconst1 := fq_lit (c := 2 ^ 52) (q := -52) (by decide +kernel) (by show FP.Core.signed false _ = _; decide)
/-- 100.0, 1000.0 -/
theorem fq_100 : fq_D 6400 4636737291354636288 := fq_lit (c := 7036874417766400) (q := -46) (by decide +kernel) (by show FP.Core.signed false _ = _; decide)
theorem fq_1000 : fq_D 64000 4652007308841189376 := fq_lit (c := 8796093022208000) (q := -43) (by decide +kernel) (by show FP.Core.signed false _ = _; decide)
/-- by 0.875 -/
theorem fq_mul7 {i : Int} {a : UInt64} (ha : fq_D (i * 8) a) (h : (i * 7).natAbs ≤ 2 ^ 53) : fq_D (i * 7) (FP.dmul a 4606056518893174784) := by
  unfold fq_D at ha ⊢
  rw [show FP.Core.val64 (FP.dmul a 4606056518893174784) = _ from FP.Core.val64_dmul _ _]
  refine fq_round h ?_
  rw [show FP.Core.val64 4606056518893174784 = .fin false 7881299347898368 (-53) by decide +kernel]
  revert ha
  generalize FP.Core.val64 a = x
  intro ha
  cases x with
  | nan => exact ha.elim
  | inf => exact ha.elim
  | fin s c q =>
    have h1 : FP.Core.Whole (i * ((2 ^ 3 : Nat) : Int)) (.fin s c ((q + 3) + (3 : Nat))) := by
      have h0 : FP.Core.Whole (i * 8) (.fin s c (q + 6)) := ha
      rw [show (q + 3) + ((3 : Nat) : Int) = q + 6 by omega]
      exact h0
    have h2 := FP.Core.whole_product (fq_down 3 h1) (show FP.Core.Whole 7 (.fin false 7881299347898368 (-50)) by show FP.Core.signed false _ = _; decide)
    have e : fq_sh 6 (FP.Core.exactProduct (.fin s c q) (.fin false 7881299347898368 (-53))) = FP.Core.exactProduct (.fin s c (q + 3)) (.fin false 7881299347898368 (-50)) := by
      simp only [fq_sh, FP.Core.exactProduct]
      rw [show q + -53 + 6 = q + 3 + -50 by omega]
    rw [e]
    exact h2
theorem fq_d64 : FP.Core.DInt 64 4634204016564240384 := by
  unfold FP.Core.DInt
  rw [show FP.Core.val64 4634204016564240384 = .fin false (2 ^ 52) (-46) by decide +kernel]
  show FP.Core.signed false _ = _
  decide
/-- (long) (a * 64.0) -/
theorem fq_long {v : Int64} {a : UInt64} (ha : fq_D v.toInt a) (h : (v.toInt * 64).natAbs ≤ 2 ^ 53) : fq_D (v.toInt * 64) (FP.dmul a 4634204016564240384) ∧ FP.d2l (FP.dmul a 4634204016564240384) = v := by
  have h1 := fq_mul ha fq_d64 h
  refine ⟨h1, FP.Core.d2l_int ?_⟩
  unfold fq_D at h1
  unfold FP.Core.DInt
  revert h1
  generalize FP.Core.val64 (FP.dmul a 4634204016564240384) = x
  intro h1
  cases x with
  | nan => exact h1.elim
  | inf => exact h1.elim
  | fin s c q => exact fq_down 6 h1
/-- v / 64.0 -/
theorem fq_shown {v : Int64} (h : v.toInt.natAbs ≤ 2 ^ 53) : fq_D v.toInt (FP.ddiv (FP.l2d v) 4634204016564240384) := by
  have h1 := FP.Core.l2d_int h
  unfold FP.Core.DInt at h1
  unfold fq_D
  rw [show FP.Core.val64 (FP.ddiv (FP.l2d v) 4634204016564240384) = _ from FP.Core.val64_ddiv _ _, show FP.Core.val64 4634204016564240384 = .fin false (2 ^ 52) (-46) by decide +kernel]
  revert h1
  generalize FP.Core.val64 (FP.Core.l2d v) = x
  intro h1
  cases x with
  | nan => exact h1.elim
  | inf => exact h1.elim
  | fin s c q =>
    have hn := FP.Core.whole_natAbs h1
    have e : FP.Core.quotient FP.Core.b64 (.fin s c q) (.fin false (2 ^ 52) (-46)) = FP.Core.roundRatio FP.Core.b64 s v.toInt.natAbs 1 (-6) := by
      unfold FP.Core.quotient
      dsimp only
      rw [if_neg (by decide), Bool.bne_false]
      refine FP.Core.roundRatio_congr (by decide) (by decide) ?_
      refine Nat.eq_of_mul_eq_mul_right (Nat.two_pow_pos q.toNat) ?_
      have hx : (q - -46 - -6).toNat + (-q).toNat = 52 + (-6 - (q - -46)).toNat + q.toNat := by omega
      calc c * 1 * 2 ^ (q - -46 - -6).toNat * 2 ^ q.toNat = (c * 2 ^ q.toNat) * 2 ^ (q - -46 - -6).toNat := by ac_rfl
        _ = v.toInt.natAbs * (2 ^ ((q - -46 - -6).toNat + (-q).toNat)) := by rw [hn, Nat.pow_add]; ac_rfl
        _ = v.toInt.natAbs * 2 ^ 52 * 2 ^ (-6 - (q - -46)).toNat * 2 ^ q.toNat := by rw [hx]; simp only [Nat.pow_add]; ac_rfl
    rw [e]
    exact fq_rr h (fun z => FP.Core.whole_sign h1 z)
