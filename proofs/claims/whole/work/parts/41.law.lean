/-! one turn of the law -/
theorem ea5 {n : Nat} : nI n + (5 : Int32) = nI (n + 5) := nI_add n 5
theorem ea6 {n : Nat} : nI n + (6 : Int32) = nI (n + 6) := nI_add n 6
theorem rnd {α : Type} {v : Int32} {X Y : α} : (if rd_nn (FP.dmul (FP.i2d v) 4593671619917905920) then X else Y) = X := if_pos (nn (fq_amount v))
theorem lawC {u : Nat} {M : rd_M} (h : qL u M) (p : Int32) (R : rd_M → Option Int32) : ∃ M', qL u M' ∧ ((f_K_count (fun k => M (0 + k)) p).bind fun r262 => (f_N_count (fun k => M (117 + k)) p).bind fun r264 => if r262 = r264.1 then R (rd_pm 22 117 M r264.2) else some 0) = R M' := by
  obtain ⟨v, N', e1, e2, e3⟩ := sim_count h p
  refine ⟨rd_pm 22 117 M N', putN (M := M) (fun k _ => by show M k = M (0 + k); rw [Nat.zero_add]) e3, ?_⟩
  rw [e1, fe_bind, e2, fe_bind, if_pos rfl]
theorem qL.up {u u' : Nat} {M : rd_M} (h : qL u M) (hu : u ≤ u') (hu2 : u' ≤ 400000) : qL u' M := qR.up h hu hu2
theorem law1 {u i Ln : Nat} {xs : Nat → Int32} {M : rd_M} (h : qL u M) (hu : u + 420 ≤ 400000) (hL : Ln ≤ 3072) (hi : i + 6 ≤ Ln) (rec : Int32 → rd_M → Option Int32) : ∃ M', qL (u + 420) M' ∧ lb_W_law xs Ln rec (nI i) M = rec (nI (i + 6)) M' := by
  have g9 : ¬ (Int32.ofNat Ln) - 6 < nI i := fun z => by
    have e := Int32.lt_iff_toInt_lt.mp z
    have e2 : ((Int32.ofNat Ln) - 6).toInt = (Ln : Int) - 6 := pk_sub_toInt (a := Ln) (b := 6) (by omega) (by omega)
    rw [e2, nI_toInt (by omega)] at e
    omega
  have r0 : rd_in (nI i) Ln := ri (by omega) (by omega)
  have r1 : rd_in (nI (i + 1)) Ln := ri (by omega) (by omega)
  have r2 : rd_in (nI (i + 2)) Ln := ri (by omega) (by omega)
  have r3 : rd_in (nI (i + 3)) Ln := ri (by omega) (by omega)
  have r4 : rd_in (nI (i + 4)) Ln := ri (by omega) (by omega)
  have r5 : rd_in (nI (i + 5)) Ln := ri (by omega) (by omega)
  have c1 : (nI (i + 1)).toNatClampNeg = i + 1 := ev_c (by omega)
  have c2 : (nI (i + 2)).toNatClampNeg = i + 2 := ev_c (by omega)
  have c3 : (nI (i + 3)).toNatClampNeg = i + 3 := ev_c (by omega)
  have c4 : (nI (i + 4)).toNatClampNeg = i + 4 := ev_c (by omega)
  have c5 : (nI (i + 5)).toNatClampNeg = i + 5 := ev_c (by omega)
  unfold lb_W_law
  rw [if_neg g9, if_pos r0]
  generalize (xs (nI i).toNatClampNeg) &&& 31 = q
  by_cases g0 : q = 0
  · rw [if_pos g0]
    simp only [ea1, ea2, ea3, ea4, ea5, ea6, if_pos r1, if_pos r2, if_pos r3, if_pos r4, if_pos r5, c1, c2, c3, c4, c5, rnd, fe_k]
    unfold f_W_price
    exact lawI (x := f_K_price (fun k => M (0 + k)) (xs (i + 1)) (FP.dmul (FP.i2d (xs (i + 2))) 4593671619917905920)) (Y := fun N => f_N_price N (xs (i + 1)) (FP.dmul (FP.i2d (xs (i + 2))) 4593671619917905920)) h (fun N1 h1 => (sim_price h1 (xs (i + 1)) (xs (i + 2))).up (by omega) hu) (rec (nI (i + 6)))
  rw [if_neg g0]
  by_cases g1 : q = 1
  · rw [if_pos g1]
    simp only [ea1, ea2, ea3, ea4, ea5, ea6, if_pos r1, if_pos r2, if_pos r3, if_pos r4, if_pos r5, c1, c2, c3, c4, c5, rnd, fe_k]
    unfold f_W_deposit
    exact lawD (x := f_K_deposit (fun k => M (0 + k)) (xs (i + 1)) (FP.dmul (FP.i2d (xs (i + 2))) 4593671619917905920)) (Y := fun N => f_N_deposit N (xs (i + 1)) (FP.dmul (FP.i2d (xs (i + 2))) 4593671619917905920)) h (fun N1 h1 => (sim_deposit h1 (by omega) (xs (i + 1)) (xs (i + 2))).up (by omega) hu) (rec (nI (i + 6)))
  rw [if_neg g1]
  by_cases g2 : q = 2
  · rw [if_pos g2]
    simp only [ea1, ea2, ea3, ea4, ea5, ea6, if_pos r1, if_pos r2, if_pos r3, if_pos r4, if_pos r5, c1, c2, c3, c4, c5, rnd, fe_k]
    unfold f_W_contact
    exact lawI (x := f_K_contact (fun k => M (0 + k)) (xs (i + 1))) (Y := fun N => f_N_contact N (xs (i + 1))) h (fun N1 h1 => (sim_contact h1 (xs (i + 1))).up (by omega) hu) (rec (nI (i + 6)))
  rw [if_neg g2]
  by_cases g3 : q = 3
  · rw [if_pos g3]
    simp only [ea1, ea2, ea3, ea4, ea5, ea6, if_pos r1, if_pos r2, if_pos r3, if_pos r4, if_pos r5, c1, c2, c3, c4, c5, rnd, fe_k]
    unfold f_W_host
    exact lawI (x := f_K_host (fun k => M (0 + k)) (xs (i + 1)) (xs (i + 2)) (xs (i + 3))) (Y := fun N => f_N_host N (xs (i + 1)) (xs (i + 2)) (xs (i + 3))) h (fun N1 h1 => (sim_host h1 (xs (i + 1)) (xs (i + 2)) (xs (i + 3))).up (by omega) hu) (rec (nI (i + 6)))
  rw [if_neg g3]
  by_cases g4 : q = 4
  · rw [if_pos g4]
    simp only [ea1, ea2, ea3, ea4, ea5, ea6, if_pos r1, if_pos r2, if_pos r3, if_pos r4, if_pos r5, c1, c2, c3, c4, c5, rnd, fe_k]
    unfold f_W_remove
    exact lawI (x := f_K_remove (fun k => M (0 + k)) (xs (i + 1)) (xs (i + 2)) (xs (i + 3))) (Y := fun N => f_N_remove N (xs (i + 1)) (xs (i + 2)) (xs (i + 3))) h (fun N1 h1 => (sim_remove h1 (xs (i + 1)) (xs (i + 2)) (xs (i + 3))).up (by omega) hu) (rec (nI (i + 6)))
  rw [if_neg g4]
  by_cases g5 : q = 5
  · rw [if_pos g5]
    simp only [ea1, ea2, ea3, ea4, ea5, ea6, if_pos r1, if_pos r2, if_pos r3, if_pos r4, if_pos r5, c1, c2, c3, c4, c5, rnd, fe_k]
    unfold f_W_create
    exact lawI (x := f_K_create (fun k => M (0 + k)) (xs (i + 1)) (xs (i + 2)) (xs (i + 3)) (xs (i + 4)) (xs (i + 5))) (Y := fun N => f_N_create N (xs (i + 1)) (xs (i + 2)) (xs (i + 3)) (xs (i + 4)) (xs (i + 5))) h (fun N1 h1 => (sim_create h1 (by omega) (xs (i + 1)) (xs (i + 2)) (xs (i + 3)) (xs (i + 4)) (xs (i + 5))).up (by omega) hu) (rec (nI (i + 6)))
  rw [if_neg g5]
  by_cases g6 : q = 6
  · rw [if_pos g6]
    simp only [ea1, ea2, ea3, ea4, ea5, ea6, if_pos r1, if_pos r2, if_pos r3, if_pos r4, if_pos r5, c1, c2, c3, c4, c5, rnd, fe_k]
    unfold f_W_change
    exact lawI (x := f_K_change (fun k => M (0 + k)) (xs (i + 1)) (xs (i + 2)) (xs (i + 3)) (xs (i + 4)) (if (xs (i + 5)) = 0 then 0 else 1)) (Y := fun N => f_N_change N (xs (i + 1)) (xs (i + 2)) (xs (i + 3)) (xs (i + 4)) (if (xs (i + 5)) = 0 then 0 else 1)) h (fun N1 h1 => (sim_change h1 (xs (i + 1)) (xs (i + 2)) (xs (i + 3)) (xs (i + 4)) (if (xs (i + 5)) = 0 then 0 else 1)).up (by omega) hu) (rec (nI (i + 6)))
  rw [if_neg g6]
  by_cases g7 : q = 7
  · rw [if_pos g7]
    simp only [ea1, ea2, ea3, ea4, ea5, ea6, if_pos r1, if_pos r2, if_pos r3, if_pos r4, if_pos r5, c1, c2, c3, c4, c5, rnd, fe_k]
    unfold f_W_lock
    exact lawI (x := f_K_lock (fun k => M (0 + k)) (xs (i + 1)) (xs (i + 2)) (xs (i + 3))) (Y := fun N => f_N_lock N (xs (i + 1)) (xs (i + 2)) (xs (i + 3))) h (fun N1 h1 => (sim_lock h1 (xs (i + 1)) (xs (i + 2)) (xs (i + 3))).up (by omega) hu) (rec (nI (i + 6)))
  rw [if_neg g7]
  by_cases g8 : q = 8
  · rw [if_pos g8]
    simp only [ea1, ea2, ea3, ea4, ea5, ea6, if_pos r1, if_pos r2, if_pos r3, if_pos r4, if_pos r5, c1, c2, c3, c4, c5, rnd, fe_k]
    unfold f_W_renew
    exact lawI (x := f_K_renew (fun k => M (0 + k)) (xs (i + 1)) (xs (i + 2)) (xs (i + 3))) (Y := fun N => f_N_renew N (xs (i + 1)) (xs (i + 2)) (xs (i + 3))) h (fun N1 h1 => (sim_renew h1 (by omega) (xs (i + 1)) (xs (i + 2)) (xs (i + 3))).up (by omega) hu) (rec (nI (i + 6)))
  rw [if_neg g8]
  by_cases g9 : q = 9
  · rw [if_pos g9]
    simp only [ea1, ea2, ea3, ea4, ea5, ea6, if_pos r1, if_pos r2, if_pos r3, if_pos r4, if_pos r5, c1, c2, c3, c4, c5, rnd, fe_k]
    unfold f_W_delete
    exact lawI (x := f_K_delete (fun k => M (0 + k)) (xs (i + 1)) (xs (i + 2))) (Y := fun N => f_N_delete N (xs (i + 1)) (xs (i + 2))) h (fun N1 h1 => (sim_delete h1 (by omega) (xs (i + 1)) (xs (i + 2))).up (by omega) hu) (rec (nI (i + 6)))
  rw [if_neg g9]
  by_cases g10 : q = 10
  · rw [if_pos g10]
    simp only [ea1, ea2, ea3, ea4, ea5, ea6, if_pos r1, if_pos r2, if_pos r3, if_pos r4, if_pos r5, c1, c2, c3, c4, c5, rnd, fe_k]
    unfold f_W_restore
    exact lawI (x := f_K_restore (fun k => M (0 + k)) (xs (i + 1)) (xs (i + 2))) (Y := fun N => f_N_restore N (xs (i + 1)) (xs (i + 2))) h (fun N1 h1 => (sim_restore h1 (by omega) (xs (i + 1)) (xs (i + 2))).up (by omega) hu) (rec (nI (i + 6)))
  rw [if_neg g10]
  by_cases g11 : q = 11
  · rw [if_pos g11]
    simp only [ea1, ea2, ea3, ea4, ea5, ea6, if_pos r1, if_pos r2, if_pos r3, if_pos r4, if_pos r5, c1, c2, c3, c4, c5, rnd, fe_k]
    unfold f_W_ask
    exact lawI (x := f_K_ask (fun k => M (0 + k)) (xs (i + 1)) (xs (i + 2)) (xs (i + 3))) (Y := fun N => f_N_ask N (xs (i + 1)) (xs (i + 2)) (xs (i + 3))) h (fun N1 h1 => (sim_ask h1 (xs (i + 1)) (xs (i + 2)) (xs (i + 3))).up (by omega) hu) (rec (nI (i + 6)))
  rw [if_neg g11]
  by_cases g12 : q = 12
  · rw [if_pos g12]
    simp only [ea1, ea2, ea3, ea4, ea5, ea6, if_pos r1, if_pos r2, if_pos r3, if_pos r4, if_pos r5, c1, c2, c3, c4, c5, rnd, fe_k]
    unfold f_W_answer
    exact lawI (x := f_K_answer (fun k => M (0 + k)) (xs (i + 1)) (xs (i + 2)) (if (xs (i + 3)) = 0 then 0 else 1)) (Y := fun N => f_N_answer N (xs (i + 1)) (xs (i + 2)) (if (xs (i + 3)) = 0 then 0 else 1)) h (fun N1 h1 => (sim_answer h1 (by omega) (xs (i + 1)) (xs (i + 2)) (if (xs (i + 3)) = 0 then 0 else 1)).up (by omega) hu) (rec (nI (i + 6)))
  rw [if_neg g12]
  by_cases g13 : q = 13
  · rw [if_pos g13]
    simp only [ea1, ea2, ea3, ea4, ea5, ea6, if_pos r1, if_pos r2, if_pos r3, if_pos r4, if_pos r5, c1, c2, c3, c4, c5, rnd, fe_k]
    unfold f_W_pass
    exact lawI (x := f_K_pass (fun k => M (0 + k)) (xs (i + 1))) (Y := fun N => f_N_pass N (xs (i + 1))) h (fun N1 h1 => sim_pass h1 hu (xs (i + 1))) (rec (nI (i + 6)))
  rw [if_neg g13]
  by_cases g14 : q = 14
  · rw [if_pos g14]
    simp only [ea1, ea2, ea3, ea4, ea5, ea6, if_pos r1, if_pos r2, if_pos r3, if_pos r4, if_pos r5, c1, c2, c3, c4, c5, rnd, fe_k]
    unfold f_W_message
    exact lawIp (x := f_K_message (fun k => M (0 + k)) (xs (i + 1))) (Y := fun N => f_N_message N (xs (i + 1))) h (fun N1 h1 => (sim_message h1 (xs (i + 1))).up (by omega) hu) (rec (nI (i + 6)))
  rw [if_neg g14]
  by_cases g15 : q = 15
  · rw [if_pos g15]
    simp only [ea1, ea2, ea3, ea4, ea5, ea6, if_pos r1, if_pos r2, if_pos r3, if_pos r4, if_pos r5, c1, c2, c3, c4, c5, rnd, fe_k]
    unfold f_W_acknowledge
    exact lawI (x := f_K_acknowledge (fun k => M (0 + k)) (xs (i + 1))) (Y := fun N => f_N_acknowledge N (xs (i + 1))) h (fun N1 h1 => (sim_acknowledge h1 (xs (i + 1))).up (by omega) hu) (rec (nI (i + 6)))
  rw [if_neg g15]
  by_cases g16 : q = 16
  · rw [if_pos g16]
    simp only [ea1, ea2, ea3, ea4, ea5, ea6, if_pos r1, if_pos r2, if_pos r3, if_pos r4, if_pos r5, c1, c2, c3, c4, c5, rnd, fe_k]
    unfold f_W_balance
    exact lawDp (x := f_K_balance (fun k => M (0 + k)) (xs (i + 1))) (Y := fun N => f_N_balance N (xs (i + 1))) h (fun N1 h1 => (sim_balance h1 (xs (i + 1))).up (by omega) hu) (rec (nI (i + 6)))
  rw [if_neg g16]
  by_cases g17 : q = 17
  · rw [if_pos g17]
    simp only [ea1, ea2, ea3, ea4, ea5, ea6, if_pos r1, if_pos r2, if_pos r3, if_pos r4, if_pos r5, c1, c2, c3, c4, c5, rnd, fe_k]
    unfold f_W_paid
    exact lawDp (x := f_K_paid (fun k => M (0 + k)) (xs (i + 1)) (xs (i + 2))) (Y := fun N => f_N_paid N (xs (i + 1)) (xs (i + 2))) h (fun N1 h1 => (sim_paid h1 (xs (i + 1)) (xs (i + 2))).up (by omega) hu) (rec (nI (i + 6)))
  rw [if_neg g17]
  by_cases g18 : q = 18
  · rw [if_pos g18]
    simp only [ea1, ea2, ea3, ea4, ea5, ea6, if_pos r1, if_pos r2, if_pos r3, if_pos r4, if_pos r5, c1, c2, c3, c4, c5, rnd, fe_k]
    unfold f_W_domain
    exact lawIp (x := f_K_domain (fun k => M (0 + k)) (xs (i + 1)) (xs (i + 2))) (Y := fun N => f_N_domain N (xs (i + 1)) (xs (i + 2))) h (fun N1 h1 => (sim_domain h1 (xs (i + 1)) (xs (i + 2))).up (by omega) hu) (rec (nI (i + 6)))
  rw [if_neg g18]
  by_cases g19 : q = 19
  · rw [if_pos g19]
    simp only [ea1, ea2, ea3, ea4, ea5, ea6, if_pos r1, if_pos r2, if_pos r3, if_pos r4, if_pos r5, c1, c2, c3, c4, c5, rnd, fe_k]
    unfold f_W_thing
    exact lawIp (x := f_K_thing (fun k => M (0 + k)) (xs (i + 1)) (xs (i + 2))) (Y := fun N => f_N_thing N (xs (i + 1)) (xs (i + 2))) h (fun N1 h1 => (sim_thing h1 (xs (i + 1)) (xs (i + 2))).up (by omega) hu) (rec (nI (i + 6)))
  rw [if_neg g19]
  by_cases g20 : q = 20
  · rw [if_pos g20]
    simp only [ea1, ea2, ea3, ea4, ea5, ea6, if_pos r1, if_pos r2, if_pos r3, if_pos r4, if_pos r5, c1, c2, c3, c4, c5, rnd, fe_k]
    unfold f_W_zone
    exact lawIp (x := f_K_zone (fun k => M (0 + k)) (xs (i + 1))) (Y := fun N => f_N_zone N (xs (i + 1))) h (fun N1 h1 => (sim_zone h1 (xs (i + 1))).up (by omega) hu) (rec (nI (i + 6)))
  rw [if_neg g20]
  by_cases g21 : q = 21
  · rw [if_pos g21]
    simp only [ea1, ea2, ea3, ea4, ea5, ea6, if_pos r1, if_pos r2, if_pos r3, if_pos r4, if_pos r5, c1, c2, c3, c4, c5, rnd, fe_k]
    exact lawC (h.up (by omega) hu) (xs (i + 1)) (rec (nI (i + 6)))
  rw [if_neg g21, ea6]
  exact ⟨M, h.up (by omega) hu, rfl⟩
theorem dk_z {k : Nat} (h : k < 117) (h1 : k ≠ 1) (h2 : ¬ ((18 ≤ k ∧ k < 26) ∨ (28 ≤ k ∧ k < 36))) : lw_0 (0 + k) = (fun _ => 0, fun _ => 0, fun _ => 0) := by
  unfold lw_0 dk_0
  rw [Nat.zero_add, if_pos h, if_neg h1, if_neg h2]
theorem rm_z {k : Nat} (h : k < 22) (h1 : k ≠ 1) (h2 : k ≠ 10) : lw_0 (117 + k) = (fun _ => 0, fun _ => 0, fun _ => 0) := by
  unfold lw_0 rm_0
  rw [if_neg (by omega), if_pos (by omega), Nat.add_sub_cancel_left, if_neg h1, if_neg h2]
theorem z64 : (64 : Int64).toInt = 64 := by decide
theorem z0 : (0 : Int64).toInt = 0 := by decide
theorem law0 : qL 0 lw_0 := by
  unfold qL
  have kz : ∀ k, k < 117 → k ≠ 1 → ¬ ((18 ≤ k ∧ k < 26) ∨ (28 ≤ k ∧ k < 36)) → (fun k => lw_0 (0 + k)) k = (fun _ => 0, fun _ => 0, fun _ => 0) := fun k h h1 h2 => dk_z h h1 h2
  have nz : ∀ k, k < 22 → k ≠ 1 → k ≠ 10 → (fun k => lw_0 (117 + k)) k = (fun _ => 0, fun _ => 0, fun _ => 0) := fun k h h1 h2 => rm_z h h1 h2
  generalize hK : (fun k => lw_0 (0 + k)) = K at kz
  generalize hN : (fun k => lw_0 (117 + k)) = N at nz
  have k1 : K 1 = dk_0 1 := by rw [← hK]; rfl
  have n1 : N 1 = rm_0 1 := by rw [← hN]; rfl
  have n10 : N 10 = rm_0 10 := by rw [← hN]; rfl
  refine ⟨by omega, ⟨0, Nat.le_refl _, by rw [kz 0 (by omega) (by omega) (by omega)]; rfl, by rw [nz 0 (by omega) (by omega) (by omega)]; rfl⟩, fun k hk => ?_, fun r hr => ⟨⟨?_, ?_⟩, fun k hk => ⟨?_, ?_⟩, 0, by omega, ?_, ?_, fun i hi => absurd hi (by omega)⟩, ⟨0, by omega, ?_, ?_, fun i hi => absurd hi (by omega)⟩, ⟨0, by omega, ?_, ?_, fun i hi => absurd hi (by omega)⟩, fun d hd w hw => ⟨0, by omega, ?_⟩, ⟨fun j hj => ⟨0, by omega, ?_⟩, fun j hj => ⟨0, by omega, ?_⟩⟩, fun d hd _ => Or.inl ⟨?_, ?_⟩⟩
  · have e1 : (N 1).2.1 k = 64 := by
      rw [n1]
      rcases (show k = 0 ∨ k = 1 ∨ k = 2 ∨ k = 3 by omega) with rfl | rfl | rfl | rfl <;> rfl
    have e2 : (K 1).2.2 k = FP.dconst1 := by
      rw [k1]
      rcases (show k = 0 ∨ k = 1 ∨ k = 2 ∨ k = 3 by omega) with rfl | rfl | rfl | rfl <;> rfl
    rw [e1, e2, z64]
    exact ⟨fq_one, 8, by omega, by omega⟩
  · have e1 : (N 2).2.1 r = 0 := by rw [nz 2 (by omega) (by omega) (by omega)]
    have e2 : (K (3 + 3 * r)).2.2 2 = FP.dconst0 := by rw [kz _ (by omega) (by omega) (by omega)]; rfl
    rw [e1, e2, z0]; exact fq_zero
  · have e1 : (N 2).2.1 r = 0 := by rw [nz 2 (by omega) (by omega) (by omega)]
    rw [e1, z0]; exact Nat.zero_le _
  · have e1 : (N 3).2.1 (4 * r + k) = 0 := by rw [nz 3 (by omega) (by omega) (by omega)]
    have e2 : (K (4 + 3 * r)).2.2 k = FP.dconst0 := by rw [kz _ (by omega) (by omega) (by omega)]; rfl
    rw [e1, e2, z0]; exact fq_zero
  · have e1 : (N 3).2.1 (4 * r + k) = 0 := by rw [nz 3 (by omega) (by omega) (by omega)]
    rw [e1, z0]; exact Nat.zero_le _
  · rw [kz _ (by omega) (by omega) (by omega)]; rfl
  · rw [nz 4 (by omega) (by omega) (by omega)]; rfl
  · rw [kz _ (by omega) (by omega) (by omega)]; rfl
  · rw [nz 0 (by omega) (by omega) (by omega)]; rfl
  · rw [kz _ (by omega) (by omega) (by omega)]; rfl
  · rw [nz 0 (by omega) (by omega) (by omega)]; rfl
  · rw [kz _ (by omega) (by omega) (by omega)]; rfl
  · rw [nz 19 (by omega) (by omega) (by omega)]; rfl
  · rw [nz 18 (by omega) (by omega) (by omega)]; rfl
  · rw [kz _ (by omega) (by omega) (by omega)]
  · rw [n10]
    rcases (show d = 0 ∨ d = 1 ∨ d = 2 ∨ d = 3 ∨ d = 4 ∨ d = 5 ∨ d = 6 ∨ d = 7 ∨ d = 8 ∨ d = 9 by omega) with rfl | rfl | rfl | rfl | rfl | rfl | rfl | rfl | rfl | rfl <;> rfl
theorem lawT {xs : Nat → Int32} {Ln : Nat} (hL : Ln ≤ 3072) : ∀ (f t : Nat) (M : rd_M), qL (420 * t) M → Ln < 6 * (t + f + 1) → t ≤ 512 → lf_W_law xs Ln (f + 1) (nI (6 * t)) M = some 1 := by
  intro f
  induction f with
  | zero =>
    intro t M h h1 ht
    show lb_W_law xs Ln _ (nI (6 * t)) M = some 1
    unfold lb_W_law
    rw [if_pos]
    refine Int32.lt_iff_toInt_lt.mpr ?_
    have e2 : ((Int32.ofNat Ln) - 6).toInt = (Ln : Int) - 6 := pk_sub_toInt (a := Ln) (b := 6) (by omega) (by omega)
    rw [e2, nI_toInt (by omega)]
    omega
  | succ f ih =>
    intro t M h h1 ht
    show lb_W_law xs Ln (lf_W_law xs Ln (f + 1)) (nI (6 * t)) M = some 1
    by_cases hb : 6 * t + 6 ≤ Ln
    · obtain ⟨M', m1, m2⟩ := law1 (xs := xs) h (by omega) hL hb (lf_W_law xs Ln (f + 1))
      rw [m2]
      exact ih (t + 1) M' m1 (by omega) (by omega)
    · unfold lb_W_law
      rw [if_pos]
      refine Int32.lt_iff_toInt_lt.mpr ?_
      have e2 : ((Int32.ofNat Ln) - 6).toInt = (Ln : Int) - 6 := pk_sub_toInt (a := Ln) (b := 6) (by omega) (by omega)
      rw [e2, nI_toInt (by omega)]
      omega
theorem law_pure {xs : Nat → Int32} {Ln : Nat} (hL : Ln ≤ 3072) : lf_W_law xs Ln 513 0 lw_0 = some 1 := lawT hL 512 0 lw_0 law0 (by omega) (by omega)
