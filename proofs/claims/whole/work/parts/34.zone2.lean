theorem zoneB {u kk : Nat} {K N : rd_M} (h : qR u 10 K N) (hkk : kk < 2 ^ 31) : (f_K_zoneRow K (nI kk) = some (-1) ∧ ∃ m, m ≤ 110 ∧ f_N_row N (nI kk) = some ((-1) - nI m)) ∨ ∃ m, m < 2 ^ 20 ∧ f_K_zoneRow K (nI kk) = some (nI m) ∧ f_N_row N (nI kk) = some (nI m) := by
  have hk : ∀ m, m ≤ 1000 → (nI m = nI kk ↔ m = kk) := fun m hm => nI_eq (by omega) hkk
  unfold f_K_zoneRow f_N_row
  have key : ∀ (r d n left fu fv : Nat), d + r = 10 → n + left = kk → n ≤ 11 * d → r < fu → r < fv → (rd_it (fun _ _ => none) (lb_K_zoneRow_4 K (nI kk) (fun _ _ => some (-1))) fu (nI d) (nI left) = some (-1) ∧ ∃ m, m ≤ 110 ∧ rd_it (fun _ _ => none) (lb_N_row_4 N (nI kk) (fun _ w => some ((-1) - w))) fv (nI d) (nI n) = some ((-1) - nI m)) ∨ ∃ m, m < 2 ^ 20 ∧ rd_it (fun _ _ => none) (lb_K_zoneRow_4 K (nI kk) (fun _ _ => some (-1))) fu (nI d) (nI left) = some (nI m) ∧ rd_it (fun _ _ => none) (lb_N_row_4 N (nI kk) (fun _ w => some ((-1) - w))) fv (nI d) (nI n) = some (nI m) := by
    intro r
    induction r with
    | zero =>
      intro d n left fu fv h1 h2 h3 h4 h5
      obtain ⟨fu, rfl⟩ : ∃ f, fu = f + 1 := ⟨fu - 1, by omega⟩
      obtain ⟨fv, rfl⟩ : ∃ f, fv = f + 1 := ⟨fv - 1, by omega⟩
      obtain rfl : d = 10 := by omega
      refine Or.inl ⟨?_, n, by omega, ?_⟩
      · rw [rd_it_s]; unfold lb_K_zoneRow_4; rw [if_pos (by decide)]
      · rw [rd_it_s]; unfold lb_N_row_4; rw [if_pos (by decide)]
    | succ r ih =>
      intro d n left fu fv h1 h2 h3 h4 h5
      obtain ⟨fu, rfl⟩ : ∃ f, fu = f + 1 := ⟨fu - 1, by omega⟩
      obtain ⟨fv, rfl⟩ : ∃ f, fv = f + 1 := ⟨fv - 1, by omega⟩
      obtain ⟨R, V, z0, z1, z2, z3, z4⟩ := zoneD h (show d < 10 by omega)
      have eK : ∀ rec, lb_K_zoneRow_4 K (nI kk) (fun _ _ => some (-1)) rec (nI d) (nI left) = if R ≤ left then rec (nI (d + 1)) (nI (left - R)) else f_K_zoneRowOf K (nI d) (nI left) := fun rec => by
        unfold lb_K_zoneRow_4
        rw [if_neg (nl10 (show d < 10 by omega)), z1, fe_bind, ea1]
        by_cases e : R ≤ left
        · rw [if_pos (nI_le e (by omega)), if_pos e, show nI left - nI R = nI (left - R) from (Int32.ofNat_sub _ _ e).symm]
        · rw [if_neg (nI_ge (by omega) (by omega)), if_neg e]
          cases f_K_zoneRowOf K (nI d) (nI left) <;> rfl
      rw [rd_it_s, rd_it_s, eK, z4 _ _ kk n _ (by omega) hk]
      by_cases e : R ≤ left
      · rw [if_pos e, if_neg (by omega)]
        exact ih (d + 1) (n + R) (left - R) fu fv (by omega) (by omega) (by omega) (by omega) (by omega)
      · rw [if_neg e, if_pos (by omega), show kk - n = left by omega, z2 left (by omega)]
        obtain ⟨m, m1, m2⟩ := z3 left (by omega)
        exact Or.inr ⟨m, m1, by rw [m2], by rw [m2]⟩
  exact key 10 0 0 kk 64 64 rfl (by omega) (by omega) (by omega) (by omega)
theorem zoneC {u : Nat} {K N : rd_M} (h : qR u 10 K N) : ∃ m, m ≤ 110 ∧ f_K_zoneRows K = some (nI m) ∧ f_N_row N (-1) = some ((-1) - nI m) := by
  have hk : ∀ m, m ≤ 1000 → (nI m = (-1 : Int32) ↔ m = 5000) := fun m hm => by rw [em1 (by omega)]; exact ⟨fun z => z.elim, fun z => by omega⟩
  unfold f_K_zoneRows f_N_row
  obtain ⟨a, b, ⟨m, m1, rfl, rfl⟩, e1, e2⟩ := lp_two (z := fun _ _ => none) (z2 := fun _ _ => none) (lb := lb_K_zoneRows_4 K (fun _ w => some w)) (lb2 := lb_N_row_4 N (-1) (fun _ w => some ((-1) - w))) (n := 10) (fun d a b => ∃ m, m ≤ 11 * d ∧ a = nI m ∧ b = nI m) (fun d hd a b hP => by
    obtain ⟨m, m1, rfl, rfl⟩ := hP
    obtain ⟨R, V, z0, z1, z2, z3, z4⟩ := zoneD h hd
    refine ⟨_, _, ⟨m + R, by omega, rfl, rfl⟩, fun rec => ?_, fun rec => ?_⟩
    · unfold lb_K_zoneRows_4
      rw [if_neg (nl10 hd), z1, fe_bind, ea1, nI_add]
    · rw [z4 _ _ 5000 m rec (by omega) hk, if_neg (by omega)]) 10 0 64 64 (nI 0) (nI 0) rfl ⟨0, by omega, rfl, rfl⟩ (by omega) (by omega)
  refine ⟨m, by omega, e1.trans ?_, e2.trans ?_⟩
  · unfold lb_K_zoneRows_4; rw [if_pos (by decide)]
  · unfold lb_N_row_4; rw [if_pos (by decide)]
theorem neg_m {m : Nat} (h : m ≤ 110) : ¬ 0 ≤ (-1 : Int32) - nI m := fun z => by
  have e := Int32.le_iff_toInt_le.mp z
  rw [Int32.toInt_sub, nI_toInt (by omega), show (-1 : Int32).toInt = -1 from rfl, show (0 : Int32).toInt = 0 from rfl, Int.bmod_eq_of_le (by omega) (by omega)] at e
  omega
theorem sub_sub (m : Int32) : (-1 : Int32) - ((-1) - m) = m := by
  apply Int32.toBitVec_inj.mp
  simp only [Int32.toBitVec_sub]
  refine BitVec.eq_of_toInt_eq ?_
  simp only [BitVec.toInt_sub]
  have h1 := m.le_toInt
  have h2 := m.toInt_lt
  have e1 : m.toBitVec.toInt = m.toInt := rfl
  have e2 : (Int32.toBitVec (-1)).toInt = -1 := by decide
  rw [e1, e2, Int.sub_bmod_bmod, show -1 - (-1 - m.toInt) = m.toInt by omega]
  exact Int.bmod_eq_of_le (by omega) (by omega)
theorem sim_zone {u : Nat} {K N : rd_M} (h : qR u 10 K N) (p1 : Int32) : qS Eq u K (qpure K (f_K_zone K p1)) (f_N_zone N p1) := by
  by_cases h0 : p1 < 0
  · have h1 : ¬ 0 ≤ p1 := fun z => le_lt z h0
    have e1 : f_K_zone K p1 = some (.inl "java/util/NoSuchElementException") := by unfold f_K_zone; rw [if_pos h0, if_pos rfl]
    have e2 : f_N_zone N p1 = some (0, rd_iU N 0 0 2) := by unfold f_N_zone; rw [if_neg h1, if_neg im1, f_fail, fe_bind]
    rw [e1, e2]; exact qS_2 h
  · obtain ⟨kk, hkk, rfl⟩ := nI_of h0
    have e1 : f_K_zone K (nI kk) = (f_K_zoneRow K (nI kk)).bind fun r3 => if r3 = (-1) then some (.inl "java/util/NoSuchElementException") else some (.inr r3) := by unfold f_K_zone; rw [if_neg h0]
    have e2 : f_N_zone N (nI kk) = (f_N_row N (nI kk)).bind fun r2 => if 0 ≤ r2 then (f_N_give N r2).bind fun r4 => some (r4.1, r4.2) else (f_N_fail N 2).bind fun r5 => some (r5.1, r5.2) := by unfold f_N_zone; rw [if_pos (nI_pos' hkk)]
    rw [e1, e2]
    rcases zoneB h hkk with ⟨e3, m, m1, e4⟩ | ⟨m, m1, e3, e4⟩
    · rw [e3, e4, fe_bind, fe_bind, if_pos rfl, if_neg (neg_m m1), f_fail, fe_bind]; exact qS_2 h
    · have hm : m < 2 ^ 31 := by omega
      have g : ¬ nI m = -1 := by rw [em1 hm]; exact not_false
      rw [e3, e4, fe_bind, fe_bind, if_neg g, if_pos (nI_pos' hm), f_give, fe_bind]; exact qS_0 rfl h
theorem sim_count {u : Nat} {K N : rd_M} (h : qR u 10 K N) (p1 : Int32) : ∃ v N', f_K_count K p1 = some v ∧ f_N_count N p1 = some (v, N') ∧ qR u 10 K N' := by
  unfold f_K_count f_N_count
  simp only [f_give, fe_bind]
  obtain ⟨t, t1, t2, t3⟩ := h.2.1
  obtain ⟨m1, a1, b1⟩ := domB h
  obtain ⟨m2, a2, b2⟩ := leftC h.2.2.2.2.1
  obtain ⟨m3, a3, b3⟩ := leftH h.2.2.2.2.2.1
  obtain ⟨m5, -, a5, b5⟩ := zoneC h
  simp only [a1, b1, a2, b2, a3, b3, a5, b5, msgB h, fe_bind, t2, t3, sub_sub]
  by_cases c0 : p1 = 0
  · exact ⟨_, _, by rw [if_pos c0], by rw [if_pos c0], h.nt⟩
  · simp only [if_neg c0]
    by_cases c1 : p1 = 1
    · exact ⟨_, _, by rw [if_pos c1], by rw [if_pos c1], h.nt⟩
    · simp only [if_neg c1]
      by_cases c2 : p1 = 2
      · exact ⟨_, _, by rw [if_pos c2], by rw [if_pos c2], h.nt⟩
      · simp only [if_neg c2]
        by_cases c3 : p1 = 3
        · exact ⟨_, _, by rw [if_pos c3], by rw [if_pos c3], h.nt⟩
        · simp only [if_neg c3]
          by_cases c4 : p1 = 4
          · exact ⟨_, _, by rw [if_pos c4], by rw [if_pos c4], h.nt⟩
          · simp only [if_neg c4]
            by_cases c5 : p1 = 5
            · exact ⟨_, _, by rw [if_pos c5], by rw [if_pos c5], h.nt⟩
            · exact ⟨_, _, by rw [if_neg c5], by rw [if_neg c5], h.nt⟩
