/-! a day passes -/
def nMove (d : Nat) (M : rd_M) : Option rd_M :=
  if (M 14).1 d = 0 then (if (M 0).1 1 ≤ (M 11).1 d then some M else f_N_pay (rd_iU M 11 d ((M 11).1 d + 10)) ((rd_iU M 11 d ((M 11).1 d + 10) 10).1 d) 1 1 (nI d) 4)
  else if (M 0).1 1 ≤ (M 15).1 d then some M
  else if (M 14).1 d = 1 then some (rd_iU (rd_iU M 14 d 2) 15 d ((rd_iU M 14 d 2 15).1 d + 2))
  else if (M 14).1 d = 2 then (f_N_removeDomain M (nI d)).bind fun r => f_N_tell r ((M 10).1 d) 4 (nI d)
  else some M
def nSet (d : Nat) (M : rd_M) : Option rd_M :=
  if (M 16).1 d < 0 then some M else if (M 0).1 1 ≤ (M 17).1 d then some M
  else (f_N_canPay M ((M 16).1 d) 2 1).bind fun r => if r = 0 then f_N_endTransfer M (nI d) else f_N_handOver M (nI d)
theorem nb_s {α : Type} (x : Option α) : (x.bind fun r => some r) = x := by cases x <;> rfl
theorem nb_a {α β γ : Type} (x : Option α) (f : α → Option β) (g : β → Option γ) : (x.bind f).bind g = x.bind fun r => (f r).bind g := by cases x <;> rfl
theorem nTail {d : Nat} (hd : d < 10) (M : rd_M) : (
      if rd_in (nI d) 10 then
      if ((M 14).1 (nI d).toNatClampNeg) = 0 then
        if rd_in (nI d) 10 then
        if ((M 0).1 1) ≤ ((M 11).1 (nI d).toNatClampNeg) then
          if rd_in (nI d) 10 then
          if ((M 14).1 (nI d).toNatClampNeg) = 1 then
            if rd_in (nI d) 10 then
            if ((M 0).1 1) ≤ ((M 15).1 (nI d).toNatClampNeg) then
              if rd_in (nI d) 10 then
              if ((M 14).1 (nI d).toNatClampNeg) = 2 then
                if rd_in (nI d) 10 then
                if ((M 0).1 1) ≤ ((M 15).1 (nI d).toNatClampNeg) then
                  some M
                else
                  if rd_in (nI d) 10 then
                  (f_N_removeDomain M (nI d)).bind fun r48 =>
                  (f_N_tell r48 ((M 10).1 (nI d).toNatClampNeg) 4 (nI d)).bind fun r49 =>
                  some r49
                  else none
                else none
              else
                some M
              else none
            else
              if rd_in (nI d) 10 then
              rd_k (rd_iU M 14 (nI d).toNatClampNeg 2) fun M51 =>
              if rd_in (nI d) 10 then
              if rd_in (nI d) 10 then
              rd_k (rd_iU M51 15 (nI d).toNatClampNeg (((M51 15).1 (nI d).toNatClampNeg) + 2)) fun M54 =>
              some M54
              else none
              else none
              else none
            else none
          else
            if rd_in (nI d) 10 then
            if ((M 14).1 (nI d).toNatClampNeg) = 2 then
              if rd_in (nI d) 10 then
              if ((M 0).1 1) ≤ ((M 15).1 (nI d).toNatClampNeg) then
                some M
              else
                if rd_in (nI d) 10 then
                (f_N_removeDomain M (nI d)).bind fun r39 =>
                (f_N_tell r39 ((M 10).1 (nI d).toNatClampNeg) 4 (nI d)).bind fun r40 =>
                some r40
                else none
              else none
            else
              some M
            else none
          else none
        else
          if rd_in (nI d) 10 then
          if rd_in (nI d) 10 then
          rd_k (rd_iU M 11 (nI d).toNatClampNeg (((M 11).1 (nI d).toNatClampNeg) + 10)) fun M57 =>
          if rd_in (nI d) 10 then
          (f_N_pay M57 ((M57 10).1 (nI d).toNatClampNeg) 1 1 (nI d) 4).bind fun r59 =>
          some r59
          else none
          else none
          else none
        else none
      else
        if rd_in (nI d) 10 then
        if ((M 14).1 (nI d).toNatClampNeg) = 1 then
          if rd_in (nI d) 10 then
          if ((M 0).1 1) ≤ ((M 15).1 (nI d).toNatClampNeg) then
            if rd_in (nI d) 10 then
            if ((M 14).1 (nI d).toNatClampNeg) = 2 then
              if rd_in (nI d) 10 then
              if ((M 0).1 1) ≤ ((M 15).1 (nI d).toNatClampNeg) then
                some M
              else
                if rd_in (nI d) 10 then
                (f_N_removeDomain M (nI d)).bind fun r23 =>
                (f_N_tell r23 ((M 10).1 (nI d).toNatClampNeg) 4 (nI d)).bind fun r24 =>
                some r24
                else none
              else none
            else
              some M
            else none
          else
            if rd_in (nI d) 10 then
            rd_k (rd_iU M 14 (nI d).toNatClampNeg 2) fun M26 =>
            if rd_in (nI d) 10 then
            if rd_in (nI d) 10 then
            rd_k (rd_iU M26 15 (nI d).toNatClampNeg (((M26 15).1 (nI d).toNatClampNeg) + 2)) fun M29 =>
            some M29
            else none
            else none
            else none
          else none
        else
          if rd_in (nI d) 10 then
          if ((M 14).1 (nI d).toNatClampNeg) = 2 then
            if rd_in (nI d) 10 then
            if ((M 0).1 1) ≤ ((M 15).1 (nI d).toNatClampNeg) then
              some M
            else
              if rd_in (nI d) 10 then
              (f_N_removeDomain M (nI d)).bind fun r14 =>
              (f_N_tell r14 ((M 10).1 (nI d).toNatClampNeg) 4 (nI d)).bind fun r15 =>
              some r15
              else none
            else none
          else
            some M
          else none
        else none
      else none) = nMove d M := by
  simp only [if_pos (ri hd (show 10 < 2 ^ 31 by decide)), ev_c (show d < 2 ^ 31 by omega), fe_k, nb_s]
  unfold nMove
  by_cases e0 : (M 14).1 d = 0
  · simp only [if_pos e0]
    by_cases e1 : (M 0).1 1 ≤ (M 11).1 d
    · simp only [if_pos e1, e0, if_neg (show ¬ (0 : Int32) = 1 by decide), if_neg (show ¬ (0 : Int32) = 2 by decide)]
    · simp only [if_neg e1]
  · simp only [if_neg e0]
    by_cases e1 : (M 14).1 d = 1
    · simp only [e1, if_neg (show ¬ (1 : Int32) = 2 by decide), if_true]
    · simp only [if_neg e1]
      by_cases e2 : (M 14).1 d = 2
      · simp only [if_pos e2]
      · simp only [if_neg e2]
        by_cases e3 : (M 0).1 1 ≤ (M 15).1 d
        · simp only [if_pos e3]
        · simp only [if_neg e3]
theorem newDayE {d : Nat} (hd : d < 10) (N : rd_M) : f_N_newDay N (nI d) = if 0 ≤ (N 10).1 d then (nSet d N).bind (nMove d) else some N := by
  unfold f_N_newDay
  simp only [nTail hd]
  simp only [ndmb hd, if_pos (ri hd (show 10 < 2 ^ 31 by decide)), ev_c (show d < 2 ^ 31 by omega), fe_k, nb_s]
  unfold nSet
  by_cases e0 : 0 ≤ (N 10).1 d
  · simp only [if_pos e0]
    by_cases e1 : (N 16).1 d < 0
    · simp only [if_pos e1, fe_bind]
    · simp only [if_neg e1]
      by_cases e2 : (N 0).1 1 ≤ (N 17).1 d
      · simp only [if_pos e2, fe_bind]
      · simp only [if_neg e2, nb_a]
        cases f_N_canPay N ((N 16).1 d) 2 1 with
        | none => rfl
        | some v =>
          simp only [fe_bind]
          by_cases e3 : v = 0
          · simp only [if_pos e3]
          · simp only [if_neg e3]
  · simp only [if_neg e0]
theorem setB {u d : Nat} {K N : rd_M} (h : qR u 10 K N) (hu : u < 400000) (hd : d < 10) (a : (K (37 + 8 * d)).1 3 = 1) : ∃ K' N', f_K_settleTransfer K (nI d) = some K' ∧ nSet d N = some N' ∧ qR (u + 1) 10 K' N' ∧ (K' (37 + 8 * d)).1 3 = 1 := by
  have h' : qR (u + 1) 10 K N := h.up (by omega) (by omega)
  obtain ⟨t, t1, t2, t3⟩ := h.2.1
  rcases h.dm hd with ⟨x, -⟩ | ⟨-, ⟨o, o1, o2, o3⟩, b1, b2, b3, b4, b5, b6, b7, b8⟩
  · rw [a] at x; exact absurd x (by decide)
  unfold f_K_settleTransfer nSet
  simp only [if_pos (ri hd (show 10 < 2 ^ 31 by decide)), ev_c (show d < 2 ^ 31 by omega), t2, t3, nb_s]
  rcases b6 with ⟨w1, w2⟩ | ⟨w, w0, w1, w2, w3⟩
  · exact ⟨K, N, by rw [w1, if_pos rfl], by rw [w2, if_pos (by decide)], h', a⟩
  · simp only [w1, w2, w3, em1 (show w < 2 ^ 31 by omega), if_false, if_neg (nI_pos (show w < 2 ^ 31 by omega)), if_pos (ri w0 (show 4 < 2 ^ 31 by decide)), ev_c (show w < 2 ^ 31 by omega)]
    by_cases e : (N 17).1 d < nI t
    · have e' : ¬ nI t ≤ (N 17).1 d := fun z => le_lt z e
      simp only [if_pos e, if_neg e']
      obtain ⟨ca, cb, c1, c2, c3, c4, c5⟩ := costB h w0 (k := 2) (kk := 2) (y := 1) (yy := 1) rfl (by omega) rfl (by omega)
      obtain ⟨m1, m2, m3⟩ := meansB h w0 c2 c3
      simp only [c1, m1, fe_bind, m3]
      by_cases g2 : cb.toInt ≤ ((N 2).2.1 w).toInt
      · obtain ⟨K', N', d1, d2, d3, d4⟩ := finB h hu hd w0 a w1 w2
        exact ⟨K', N', by rw [if_pos g2]; exact d1, by rw [if_pos g2, if_neg h10]; exact d2, d3, d4⟩
      · obtain ⟨K', N', d1, d2, d3, d4⟩ := endB h' hd w0 a w1 w2
        exact ⟨K', N', by rw [if_neg g2]; exact d1, by rw [if_neg g2, if_pos rfl]; exact d2, d3, d4⟩
    · exact ⟨K, N, by rw [if_neg e], by rw [if_pos (nlt_le e)], h', a⟩
theorem autoB {u d t : Nat} {K N : rd_M} (h : qR u 10 K N) (hu : u < 400000) (hd : d < 10) (a : (K (37 + 8 * d)).1 3 = 1) (t2 : (K 0).1 4 = nI t) (t3 : (N 0).1 1 = nI t) : ∃ K' N', f_K_renewByItself K d = some K' ∧ f_N_pay (rd_iU N 11 d ((N 11).1 d + 10)) ((rd_iU N 11 d ((N 11).1 d + 10) 10).1 d) 1 1 (nI d) 4 = some N' ∧ qR (u + 1) 10 K' N' := by
  rcases h.dm hd with ⟨x, -⟩ | ⟨-, ⟨o, o1, o2, o3⟩, b1, b2, b3, b4, b5, b6, b7, b8⟩
  · rw [a] at x; exact absurd x (by decide)
  have hq : qR u d K (rd_iU N 11 d ((N 11).1 d + 10)) := (h.ex (e := d)).nw (by unfold qO; omega) (fun z => absurd z (by decide))
  obtain ⟨ca, cb, c1, c2, c3, c4, c5⟩ := costB hq o1 (k := 1) (kk := 1) (y := 1) (yy := 1) rfl (by omega) rfl (by omega)
  obtain ⟨K1, s1, e3, e4⟩ := spendB hq hu o1 (kk := 1) (by omega) c3 c4 c5 (k := 1) rfl
  have n10 : (rd_iU N 11 d ((N 11).1 d + 10) 10).1 d = nI o := by rw [me_ic (by decide)]; exact o3
  have e5 : (K1 (37 + 8 * d)).1 5 = (N 11).1 d := by rw [e3 _ (by omega)]; exact b1
  have e0 : ∀ v, (rd_iU K1 (37 + 8 * d) 5 v 0).1 4 = nI t := fun v => by rw [me_ic (by omega), e3 _ (by omega)]; exact t2
  have n0 : (rd_iU N 11 d ((N 11).1 d + 10) 0).1 1 = nI t := by rw [me_ic (by decide)]; exact t3
  refine ⟨rd_iU (rd_dU (rd_iU K1 (37 + 8 * d) 5 ((N 11).1 d + 10)) (43 + 8 * d) 4 ca) (44 + 8 * d) 4 (nI t + 4), rd_iU (rd_lU (rd_lU (rd_lU (rd_iU N 11 d ((N 11).1 d + 10)) 2 o (((rd_iU N 11 d ((N 11).1 d + 10)) 2).2.1 o - cb)) 3 (4 * o + 1) (((rd_iU N 11 d ((N 11).1 d + 10)) 3).2.1 (4 * o + 1) + cb)) 20 (5 * d + 4) cb) 21 (5 * d + 4) (nI t + 4), ?_, ?_, ?_⟩
  · unfold f_K_renewByItself f_D_setGrace
    simp only [o2, if_pos (ri o1 (show 4 < 2 ^ 31 by decide)), ev_c (show o < 2 ^ 31 by omega), if_pos in45, cn4]
    rw [c1, fe_bind, s1, fe_bind, fe_k, fe_k, fe_k, fe_bind, e5, e0]
  · rw [n10, payN c2 o1 (show (1 : Int32) = nI 1 from rfl) (by omega) hd (show (4 : Int32) = nI 4 from rfl) (by omega), n0, if_pos rfl]
  · refine (((((e4.kw hd (by omega) (by omega) (fun z => absurd z (by omega))).kd hd (by omega) (by omega)).kw hd (by omega) (by omega) (fun z => absurd z (by omega))).nl (by unfold qO; omega)).nw (by unfold qO; omega) (fun z => absurd z (by decide))).cl (Or.inr ⟨?_, ⟨o, o1, ?_, ?_⟩, ?_, ?_, ?_, ?_, ?_, ?_, fun w hw => ?_, fun k hk => ?_⟩)
    · simp (disch := omega) only [me_ii, me_in, me_il, me_li, me_ld, me_ll, me_ln, me_di, me_dl, me_dd, me_dn, e3]; exact a
    · simp (disch := omega) only [me_ii, me_in, me_il, me_li, me_ld, me_ll, me_ln, me_di, me_dl, me_dd, me_dn, e3]; exact o2
    · simp (disch := omega) only [me_ii, me_in, me_il, me_li, me_ld, me_ll, me_ln, me_di, me_dl, me_dd, me_dn, e3]; exact o3
    · simp (disch := omega) only [me_ii, me_in, me_il, me_li, me_ld, me_ll, me_ln, me_di, me_dl, me_dd, me_dn, e3]
    · simp (disch := omega) only [me_ii, me_in, me_il, me_li, me_ld, me_ll, me_ln, me_di, me_dl, me_dd, me_dn, e3]; exact b2
    · simp (disch := omega) only [me_ii, me_in, me_il, me_li, me_ld, me_ll, me_ln, me_di, me_dl, me_dd, me_dn, e3]; exact b3
    · simp (disch := omega) only [me_ii, me_in, me_il, me_li, me_ld, me_ll, me_ln, me_di, me_dl, me_dd, me_dn, e3]; exact b4
    · simp (disch := omega) only [me_ii, me_in, me_il, me_li, me_ld, me_ll, me_ln, me_di, me_dl, me_dd, me_dn, e3]; exact b5
    · simp (disch := omega) only [me_ii, me_in, me_il, me_li, me_ld, me_ll, me_ln, me_di, me_dl, me_dd, me_dn, e3]; exact b6
    · exact (b7 w hw).cg (by simp (disch := omega) only [me_ii, me_in, me_il, me_li, me_ld, me_ll, me_ln, me_di, me_dl, me_dd, me_dn, e3]) (fun i _ => by simp (disch := omega) only [me_ii, me_in, me_il, me_li, me_ld, me_ll, me_ln, me_di, me_dl, me_dd, me_dn, e3]) (by simp (disch := omega) only [me_ii, me_in, me_il, me_li, me_ld, me_ll, me_ln, me_di, me_dl, me_dd, me_dn]) (fun i _ => by simp (disch := omega) only [me_ii, me_in, me_il, me_li, me_ld, me_ll, me_ln, me_di, me_dl, me_dd, me_dn])
    · by_cases ek : k = 4
      · subst ek
        unfold qG
        simp (disch := omega) only [me_ii, me_in, me_il, me_li, me_ld, me_ll, me_ln, me_di, me_dl, me_dd, me_dn]
        exact ⟨by first | rfl | trivial, Or.inr ⟨by decide, c3, c4, c5⟩⟩
      · exact (b8 k hk).cg (by simp (disch := omega) only [me_ii, me_in, me_il, me_li, me_ld, me_ll, me_ln, me_di, me_dl, me_dd, me_dn, e3]) (by simp (disch := omega) only [me_ii, me_in, me_il, me_li, me_ld, me_ll, me_ln, me_di, me_dl, me_dd, me_dn, e3]) (by simp (disch := omega) only [me_ii, me_in, me_il, me_li, me_ld, me_ll, me_ln, me_di, me_dl, me_dd, me_dn]) (by simp (disch := omega) only [me_ii, me_in, me_il, me_li, me_ld, me_ll, me_ln, me_di, me_dl, me_dd, me_dn])
theorem entB {u d : Nat} {K N : rd_M} (h : qR u 10 K N) (hd : d < 10) (a : (K (37 + 8 * d)).1 3 = 1) (v : Int32) : qR u 10 (rd_iU (rd_iU K (37 + 8 * d) 8 2) (37 + 8 * d) 9 v) (rd_iU (rd_iU N 14 d 2) 15 d v) := by
  rcases h.dm hd with ⟨x, -⟩ | ⟨-, ⟨o, o1, o2, o3⟩, b1, b2, b3, b4, b5, b6, b7, b8⟩
  · rw [a] at x; exact absurd x (by decide)
  refine (((((h.ex (e := d)).kw hd (by omega) (by omega) (fun z => absurd z (by omega))).kw hd (by omega) (by omega) (fun z => absurd z (by omega))).nw (by unfold qO; omega) (fun z => absurd z (by decide))).nw (by unfold qO; omega) (fun z => absurd z (by decide))).cl (Or.inr ⟨?_, ⟨o, o1, ?_, ?_⟩, ?_, ?_, ?_, ?_, Or.inr ⟨Or.inr ?_, ?_⟩, ?_, fun w hw => ?_, fun k hk => ?_⟩)
  · simp (disch := omega) only [me_ii, me_in, me_il, me_li, me_ld, me_ll, me_ln, me_di, me_dl, me_dd, me_dn]; exact a
  · simp (disch := omega) only [me_ii, me_in, me_il, me_li, me_ld, me_ll, me_ln, me_di, me_dl, me_dd, me_dn]; exact o2
  · simp (disch := omega) only [me_ii, me_in, me_il, me_li, me_ld, me_ll, me_ln, me_di, me_dl, me_dd, me_dn]; exact o3
  · simp (disch := omega) only [me_ii, me_in, me_il, me_li, me_ld, me_ll, me_ln, me_di, me_dl, me_dd, me_dn]; exact b1
  · simp (disch := omega) only [me_ii, me_in, me_il, me_li, me_ld, me_ll, me_ln, me_di, me_dl, me_dd, me_dn]; exact b2
  · simp (disch := omega) only [me_ii, me_in, me_il, me_li, me_ld, me_ll, me_ln, me_di, me_dl, me_dd, me_dn]; exact b3
  · simp (disch := omega) only [me_ii, me_in, me_il, me_li, me_ld, me_ll, me_ln, me_di, me_dl, me_dd, me_dn]
  · simp (disch := omega) only [me_ii, me_in, me_il, me_li, me_ld, me_ll, me_ln, me_di, me_dl, me_dd, me_dn]
  · simp (disch := omega) only [me_ii, me_in, me_il, me_li, me_ld, me_ll, me_ln, me_di, me_dl, me_dd, me_dn]
  · simp (disch := omega) only [me_ii, me_in, me_il, me_li, me_ld, me_ll, me_ln, me_di, me_dl, me_dd, me_dn]; exact b6
  · exact (b7 w hw).cg (by simp (disch := omega) only [me_ii, me_in, me_il, me_li, me_ld, me_ll, me_ln, me_di, me_dl, me_dd, me_dn]) (fun i _ => by simp (disch := omega) only [me_ii, me_in, me_il, me_li, me_ld, me_ll, me_ln, me_di, me_dl, me_dd, me_dn]) (by simp (disch := omega) only [me_ii, me_in, me_il, me_li, me_ld, me_ll, me_ln, me_di, me_dl, me_dd, me_dn]) (fun i _ => by simp (disch := omega) only [me_ii, me_in, me_il, me_li, me_ld, me_ll, me_ln, me_di, me_dl, me_dd, me_dn])
  · exact (b8 k hk).cg (by simp (disch := omega) only [me_ii, me_in, me_il, me_li, me_ld, me_ll, me_ln, me_di, me_dl, me_dd, me_dn]) (by simp (disch := omega) only [me_ii, me_in, me_il, me_li, me_ld, me_ll, me_ln, me_di, me_dl, me_dd, me_dn]) (by simp (disch := omega) only [me_ii, me_in, me_il, me_li, me_ld, me_ll, me_ln, me_di, me_dl, me_dd, me_dn]) (by simp (disch := omega) only [me_ii, me_in, me_il, me_li, me_ld, me_ll, me_ln, me_di, me_dl, me_dd, me_dn])
theorem movB {u d : Nat} {K N : rd_M} (h : qR u 10 K N) (hu : u < 400000) (hd : d < 10) (a : (K (37 + 8 * d)).1 3 = 1) : ∃ K' N', f_K_moveOn K (nI d) = some K' ∧ nMove d N = some N' ∧ qR (u + 1) 10 K' N' := by
  have h' : qR (u + 1) 10 K N := h.up (by omega) (by omega)
  obtain ⟨t, t1, t2, t3⟩ := h.2.1
  rcases h.dm hd with ⟨x, -⟩ | ⟨-, ⟨o, o1, o2, o3⟩, b1, b2, b3, b4, b5, b6, b7, b8⟩
  · rw [a] at x; exact absurd x (by decide)
  unfold f_K_moveOn nMove f_D_enter
  simp only [if_pos (ri hd (show 10 < 2 ^ 31 by decide)), ev_c (show d < 2 ^ 31 by omega), nb_s, fe_k, fe_bind, b4, t2, t3, o3]
  rcases b5 with e0 | ⟨e1, e9⟩
  · simp only [if_pos e0, b1]
    by_cases g : nI t ≤ (N 11).1 d
    · exact ⟨K, N, by rw [if_pos g], by rw [if_pos g], h'⟩
    · simp only [if_neg g]
      exact autoB h hu hd a t2 t3
  · have e0 : ¬ (N 14).1 d = 0 := by
      rcases e1 with e | e
      · rw [e]; decide
      · rw [e]; decide
    simp only [if_neg e0, e9]
    by_cases g : nI t ≤ (N 15).1 d
    · exact ⟨K, N, by rw [if_pos g], by rw [if_pos g], h'⟩
    · simp only [if_neg g]
      rcases e1 with e | e
      · refine ⟨_, _, by rw [if_pos e], by rw [if_pos e], ?_⟩
        rw [me_ic (show (15 : Nat) ≠ 14 by decide)]
        exact entB h' hd a _
      · have e2 : ¬ (N 14).1 d = 1 := by rw [e]; decide
        simp only [if_neg e2, if_pos e]
        obtain ⟨K1, N1, d1, d2, d3, d4⟩ := dropDB h' hd
        obtain ⟨K2, N2, z1, z2, z3, -⟩ := tellB d3 o1 4 (nI d)
        refine ⟨K2, N2, ?_, ?_, z3⟩
        · rw [d1, fe_bind, d4, o2, if_pos (ri o1 (show 4 < 2 ^ 31 by decide)), ev_c (by omega)]; exact z1
        · rw [d2, fe_bind]; exact z2
theorem day1 {u d : Nat} {K N : rd_M} (h : qR u 10 K N) (hu : u + 2 ≤ 400000) (hd : d < 10) : ∃ K' N', (∀ Kf rec, lb_K_passDay_12 Kf rec (nI d) K = rec (nI (d + 1)) K') ∧ f_N_newDay N (nI d) = some N' ∧ qR (u + 2) 10 K' N' := by
  have hk : ∀ Kf rec, lb_K_passDay_12 Kf rec (nI d) K = if (K (37 + 8 * d)).1 3 = 0 then rec (nI (d + 1)) K else (f_K_settleTransfer K (nI d)).bind fun r5 => (f_K_moveOn r5 (nI d)).bind fun r6 => rec (nI (d + 1)) r6 := fun Kf rec => by
    unfold lb_K_passDay_12
    rw [if_neg (nl10 hd), if_pos (ri hd (by decide)), ev_c (by omega), ea1]
  rw [newDayE hd]
  rcases h.dm hd with ⟨a, b⟩ | ⟨a, ⟨o, o1, o2, o3⟩, -⟩
  · exact ⟨K, N, fun Kf rec => by rw [hk, if_pos a], by rw [b, if_neg im1], h.up (by omega) hu⟩
  · obtain ⟨K1, N1, e1, e2, e3, e4⟩ := setB h (by omega) hd a
    obtain ⟨K2, N2, g1, g2, g3⟩ := movB e3 (by omega) hd e4
    exact ⟨K2, N2, fun Kf rec => by rw [hk, a, if_neg h10, e1, fe_bind, g1, fe_bind], by rw [o3, if_pos (nI_pos' (by omega)), e2, fe_bind, g2], g3⟩
theorem dayN {u : Nat} (hu : u + 20 ≤ 400000) : ∀ (k i fu fv : Nat) (K N : rd_M), i + k = 10 → qR (u + 2 * i) 10 K N → k < fu → k < fv → ∃ K' N', qR (u + 20) 10 K' N' ∧ rd_it (fun _ _ => none) (lb_K_passDay_12 (fun _ w => some w)) fu (nI i) K = some K' ∧ ∀ q2 q1 Kf, rd_it (fun _ _ => none) (lb_N_pass_35 q2 q1 Kf) fv (nI i) N = Kf (nI 10) N' := by
  intro k
  induction k with
  | zero =>
    intro i fu fv K N hi h hf hv
    obtain rfl : i = 10 := by omega
    obtain ⟨f, rfl⟩ : ∃ f, fu = f + 1 := ⟨fu - 1, by omega⟩
    obtain ⟨g, rfl⟩ : ∃ f, fv = f + 1 := ⟨fv - 1, by omega⟩
    refine ⟨K, N, h, ?_, fun q2 q1 Kf => ?_⟩
    · rw [rd_it_s]
      unfold lb_K_passDay_12
      rw [if_pos (by decide)]
    · rw [rd_it_s]
      unfold lb_N_pass_35
      rw [if_pos (by decide)]
  | succ k ih =>
    intro i fu fv K N hi h hf hv
    obtain ⟨f, rfl⟩ : ∃ f, fu = f + 1 := ⟨fu - 1, by omega⟩
    obtain ⟨g, rfl⟩ : ∃ f, fv = f + 1 := ⟨fv - 1, by omega⟩
    obtain ⟨K1, N1, e1, e2, e3⟩ := day1 h (by omega) (show i < 10 by omega)
    obtain ⟨K2, N2, g1, g2, g3⟩ := ih (i + 1) f g K1 N1 (by omega) e3 (by omega) (by omega)
    refine ⟨K2, N2, g1, ?_, fun q2 q1 Kf => ?_⟩
    · rw [rd_it_s, e1]; exact g2
    · rw [rd_it_s]
      refine Eq.trans ?_ (g3 q2 q1 Kf)
      rw [lb_N_pass_35, if_neg (nl10 (show i < 10 by omega)), e2, fe_bind, ea1]
theorem dayB {u : Nat} {K N : rd_M} (h : qR u 10 K N) (hu : u + 21 ≤ 400000) : ∃ K' N', f_K_passDay K = some K' ∧ (∀ q2 q1 Kf, rd_it (fun _ _ => none) (lb_N_pass_35 q2 q1 Kf) 64 0 (rd_iU N 0 1 ((N 0).1 1 + 1)) = Kf (nI 10) N') ∧ qR (u + 21) 10 K' N' := by
  obtain ⟨h0, ⟨t, t1, t2, t3⟩, h2, h3, h4, h5, h6, h7, h8⟩ := h
  have hq : qR (u + 1) 10 (rd_iU K 0 4 ((K 0).1 4 + 1)) (rd_iU N 0 1 ((N 0).1 1 + 1)) := by
    have kc : ∀ c, c ≠ 0 → rd_iU K 0 4 ((K 0).1 4 + 1) c = K c := fun c hc => me_ic hc
    have nc : ∀ c, c ≠ 0 → rd_iU N 0 1 ((N 0).1 1 + 1) c = N c := fun c hc => me_ic hc
    refine ⟨by omega, ⟨t + 1, by omega, by rw [me_ii rfl rfl, t2, ea1], by rw [me_ii rfl rfl, t3, ea1]⟩, fun k hk => by rw [kc 1 (by decide), nc 1 (by decide)]; exact h2 k hk, fun r hr => (h3 r hr).cg (Nat.le_succ _) (kc _ (by omega)) (kc _ (by omega)) (kc _ (by omega)) (by rw [nc 2 (by decide)]) (fun k _ => by rw [nc 3 (by decide)]) (by rw [nc 4 (by decide)]) (fun i _ => by rw [nc 5 (by decide)]), h4.cg (fun c h1 _ => kc c (by omega)) (me_in (by omega)) (fun i _ => by rw [nc 6 (by decide)]), h5.cg (fun c h1 _ => kc c (by omega)) (me_in (by omega)) (fun i _ => by rw [nc 7 (by decide), nc 8 (by decide), nc 9 (by decide)]; exact ⟨rfl, rfl, rfl⟩), fun d hd w hw => by rw [kc _ (by omega)]; exact h6 d hd w hw, ⟨fun j hj => by rw [nc 19 (by decide)]; exact h7.1 j hj, fun j hj => by rw [nc 18 (by decide)]; exact h7.2 j hj⟩, fun d hd hne => (h8 d hd hne).cg (fun c _ _ => kc c (by omega)) (fun c j ho => by rw [nc c (by unfold qO at ho; omega)]; exact ⟨rfl, rfl⟩)⟩
  obtain ⟨K', N', e1, e2, e3⟩ := dayN (u := u + 1) (by omega) 10 0 64 64 _ _ rfl hq (by omega) (by omega)
  refine ⟨K', N', ?_, e3, e1⟩
  unfold f_K_passDay
  rw [fe_k]
  exact e2
theorem sim_pass {u : Nat} {K N : rd_M} (h : qR u 10 K N) (hu : u + 420 ≤ 400000) (p1 : Int32) : qS Eq (u + 420) K (f_K_pass K p1) (f_N_pass N p1) := by
  have h' : qR (u + 420) 10 K N := h.up (by omega) hu
  unfold f_K_pass f_N_pass
  simp only [f_rrb, f_inb, f_fail, f_give, fe_bind]
  by_cases h1 : 1 ≤ p1 ∧ p1 ≤ 20
  · simp only [if_pos h1]
    obtain ⟨n, hn, rfl⟩ := rg_of (n := 20) (by decide) ⟨Int32.le_iff_toInt_le.mpr (by have := Int32.le_iff_toInt_le.mp h1.1; have e : (1 : Int32).toInt = 1 := rfl; have e2 : (0 : Int32).toInt = 0 := rfl; omega), h1.2⟩
    obtain ⟨K', N', p1, e1, e2⟩ := lp_two (z := fun _ _ => none) (z2 := fun _ _ => none) (lb := lb_K_pass_9 (nI n) (fun w9_2 w9_M => some (.inr ((w9_M 0).1 4, w9_M)))) (lb2 := lb_N_pass_18 (nI n) (fun w18_2 w18_M => some ((w18_M 0).1 1, rd_iU w18_M 0 0 0))) (n := n) (fun i a b => qR (u + 21 * i) 10 a b) (fun i hi a b hP => by
      obtain ⟨K1, N1, e1, e2, e3⟩ := dayB hP (by omega)
      refine ⟨K1, N1, e3, fun rec => ?_, fun rec => ?_⟩
      · unfold lb_K_pass_9
        rw [if_neg (nI_ge hi (by omega)), e1, fe_bind, ea1]
      · unfold lb_N_pass_18
        rw [if_neg (nI_ge hi (by omega)), fe_k, e2, ea1]) n 0 64 64 K N (by omega) h (by omega) (by omega)
    refine cast (congr (congrArg (qS Eq (u + 420) K) e1) e2).symm ?_
    unfold lb_K_pass_9 lb_N_pass_18
    rw [if_pos (nI_le (Nat.le_refl _) (by omega)), if_pos (nI_le (Nat.le_refl _) (by omega))]
    obtain ⟨t, t1, t2, t3⟩ := p1.2.1
    exact qS_0 (by rw [t2, t3]) (p1.up (by omega) hu)
  · simp only [if_neg h1]; exact qS_1 h' 
