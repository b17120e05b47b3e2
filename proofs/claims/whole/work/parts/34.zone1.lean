/-! hosts under a domain -/
theorem hostF {K N : rd_M} (h : qH K N) : ∃ (c : Nat) (f : Nat → Bool), c ≤ 8 ∧ (N 0).1 9 = nI c ∧ (K (16 + 10 * 1)).1 1 = nI c ∧ (∀ j, c ≤ j → f j = false) ∧ (∀ i, i < 8 → f_S_has K 1 (nI i) = some (if f i = true then 1 else 0)) ∧ ∀ i, i < c → (f i = false ∧ (N 7).1 i = -1) ∨ (f i = true ∧ (∃ m, m < 4 ∧ (N 7).1 i = nI m) ∧ (K (18 + 10 * 1 + i)).1 2 = (N 9).1 i ∧ (K (18 + 10 * 1 + i)).1 1 = (N 7).1 i) := by
  obtain ⟨f, -, f1, c, c1, c2, c3, c4, c5⟩ := hasH h
  obtain ⟨c0, d1, d2, d3, d4⟩ := h
  obtain rfl : c0 = c := by rw [c2, eII (by omega) (by omega)] at d2; exact d2.symm
  refine ⟨c0, f, c1, c3, c2, c4, fun i hi => (f1 i hi).1, fun i hi => ?_⟩
  obtain ⟨e1, e2⟩ := d4 i hi
  rcases c5 i hi with ⟨a, b⟩ | ⟨a, b⟩
  · rcases e1 with ⟨x, y⟩ | ⟨x, -⟩
    · exact Or.inl ⟨b, y⟩
    · rw [a] at x; exact absurd x (by decide)
  · rcases e1 with ⟨x, -⟩ | ⟨x, y, m, m1, m2⟩
    · rw [a] at x; exact absurd x (by decide)
    · exact Or.inr ⟨b, ⟨m, m1, m2⟩, (e2 a).1, y⟩
theorem liesB {K N : rd_M} {c i : Nat} {f : Nat → Bool} {q : Int32} (hc : c ≤ 8) (h1 : ∀ j, c ≤ j → f j = false) (h2 : ∀ i, i < 8 → f_S_has K 1 (nI i) = some (if f i = true then 1 else 0)) (h3 : ∀ i, i < c → (f i = false ∧ (N 7).1 i = -1) ∨ (f i = true ∧ (∃ m, m < 4 ∧ (N 7).1 i = nI m) ∧ (K (18 + 10 * 1 + i)).1 2 = (N 9).1 i ∧ (K (18 + 10 * 1 + i)).1 1 = (N 7).1 i)) (hi : i < 8) : f_S_liesUnder K 1 (nI i) q = some (if f i = true ∧ (N 9).1 i = q then 1 else 0) := by
  unfold f_S_liesUnder
  rw [h2 i hi, fe_bind]
  by_cases e : f i = true
  · have hic : i < c := by
      rcases Nat.lt_or_ge i c with z | z
      · exact z
      · rw [h1 i z] at e; cases e
    rcases h3 i hic with ⟨a, -⟩ | ⟨a, -, b, -⟩
    · rw [e] at a; cases a
    · rw [if_pos e, if_neg h10, if_pos (ri hi (by decide)), fe_k, ev_c (by omega), b]
      by_cases e2 : (N 9).1 i = q
      · rw [if_pos e2, if_pos ⟨e, e2⟩]
      · rw [if_neg e2, if_neg (fun z => e2 z.2)]
  · rw [if_neg e, if_pos rfl, if_neg (fun z => e z.1)]
theorem ea_1 {n : Nat} : nI (n + 1) + (-1 : Int32) = nI n := by
  rw [nI_succ, Int32.add_assoc, show (1 : Int32) + -1 = 0 from rfl, Int32.add_zero]
theorem eL {n : Nat} (h : n < 2 ^ 31) : (nI n ≤ 0) = (nI n = 0) := by rw [el_0 h, eq0 h]
theorem zoneD {u d : Nat} {K N : rd_M} (h : qR u 10 K N) (hd : d < 10) : ∃ (R : Nat) (V : Nat → Int32), R ≤ 11 ∧ f_K_zoneRowsOf K (nI d) = some (nI R) ∧ (∀ l, l < R → f_K_zoneRowOf K (nI d) (nI l) = some (V l)) ∧ (∀ l, l < R → ∃ m, m < 2 ^ 20 ∧ V l = nI m) ∧ ∀ (k : Int32) (Kf : Int32 → Int32 → Option Int32) (kk n : Nat) (rec : Int32 → Int32 → Option Int32), n ≤ 900 → (∀ m, m ≤ 1000 → (nI m = k ↔ m = kk)) → lb_N_row_4 N k Kf rec (nI d) (nI n) = if n ≤ kk ∧ kk < n + R then some (V (kk - n)) else rec (nI (d + 1)) (nI (n + R)) := by
  have i21 : (2 * nI d) + 1 = nI (2 * d + 1) := by rw [em2, ea1]
  have hrow : ∀ (k : Int32) (Kf : Int32 → Int32 → Option Int32) (rec : Int32 → Int32 → Option Int32) (v : Int32), lb_N_row_4 N k Kf rec (nI d) v = if 0 ≤ (N 10).1 d then (if (N 14).1 d = 0 then (if (N 13).1 d &&& 16 = 0 then (if (N 19).1 (2 * d + 1) = 0 then rec (nI (d + 1)) v else rd_it (fun _ _ => none) (lb_N_row_62 N ((N 19).1 (2 * d + 1)) (nI d) k (fun w62_5 w62_2 => rd_it (fun _ _ => none) (lb_N_row_107 N ((N 19).1 (2 * d + 1)) (nI d) k (fun w107_5 w107_2 => rec (nI (d + 1)) w107_2)) 64 0 w62_2)) 64 0 v) else rec (nI (d + 1)) v) else rec (nI (d + 1)) v) else rec (nI (d + 1)) v := fun k Kf rec v => by
    unfold lb_N_row_4
    simp only [if_neg (nl10 hd), i21, if_pos (ri (show 2 * d + 1 < 20 by omega) (show 20 < 2 ^ 31 by decide)), ndmb hd, if_pos (ri hd (show 10 < 2 ^ 31 by decide)), ev_c (show d < 2 ^ 31 by omega), ev_c (show 2 * d + 1 < 2 ^ 31 by omega), ea1]
  have hdel : f_K_zoneRowsOf K (nI d) = (f_D_isDelegated K d).bind fun r2 => if r2 = 0 then some 0 else rd_it (fun _ _ => none) (lb_K_zoneRowsOf_31 K (nI d) (fun w31_3 w31_2 => some w31_2)) 64 0 ((K (39 + 8 * d + 2 * 1)).1 1) := by
    unfold f_K_zoneRowsOf
    simp only [if_pos (ri hd (show 10 < 2 ^ 31 by decide)), ev_c (show d < 2 ^ 31 by omega)]
  have none0 : f_D_isDelegated K d = some 0 → (∀ (k : Int32) (Kf : Int32 → Int32 → Option Int32) (rec : Int32 → Int32 → Option Int32) (v : Int32), lb_N_row_4 N k Kf rec (nI d) v = rec (nI (d + 1)) v) → ∃ (R : Nat) (V : Nat → Int32), R ≤ 11 ∧ f_K_zoneRowsOf K (nI d) = some (nI R) ∧ (∀ l, l < R → f_K_zoneRowOf K (nI d) (nI l) = some (V l)) ∧ (∀ l, l < R → ∃ m, m < 2 ^ 20 ∧ V l = nI m) ∧ ∀ (k : Int32) (Kf : Int32 → Int32 → Option Int32) (kk n : Nat) (rec : Int32 → Int32 → Option Int32), n ≤ 900 → (∀ m, m ≤ 1000 → (nI m = k ↔ m = kk)) → lb_N_row_4 N k Kf rec (nI d) (nI n) = if n ≤ kk ∧ kk < n + R then some (V (kk - n)) else rec (nI (d + 1)) (nI (n + R)) := fun e1 e2 => by
    refine ⟨0, fun _ => 0, by omega, by rw [hdel, e1]; rfl, fun l hl => absurd hl (by omega), fun l hl => absurd hl (by omega), fun k Kf kk n rec _ _ => ?_⟩
    rw [e2, if_neg (by omega)]
    rfl
  rcases h.dm hd with ⟨a, b⟩ | ⟨a, ⟨o, o1, o2, o3⟩, b1, b2, b3, b4, b5, b6, b7, b8⟩
  · exact none0 (by unfold f_D_isDelegated; rw [if_pos a]) (fun k Kf rec v => by rw [hrow, b, if_neg im1])
  · have h0 : 0 ≤ (N 10).1 d := by rw [o3]; exact nI_pos' (by omega)
    obtain ⟨s, s1, s2, s3, s4⟩ := b7 1 (by omega)
    by_cases g1 : (N 14).1 d = 0
    · by_cases g2 : (N 13).1 d &&& 16 = 0
      · by_cases g3 : s = 0
        · subst g3
          refine none0 (by unfold f_D_isDelegated; rw [a, if_neg h10, b4, if_pos g1, b3, if_pos g2, s2]; rfl) (fun k Kf rec v => by rw [hrow, if_pos h0, if_pos g1, if_pos g2, s3]; rfl)
        · obtain ⟨c, f0, c1, c2, c3, c4, c5, c6⟩ := hostF h.2.2.2.2.2.1
          have us : ∀ i : Nat, ∃ v, v ≤ 10 ∧ f_K_usesOf K 1 (nI i) = some (nI v) ∧ f_N_users N 1 (nI i) = some (nI v) := fun i => usB (nI i) (show (1 : Int32) = nI 1 from rfl) (by omega) h
          have hf : ∃ f : Nat → Bool, ∀ i, f i = true ↔ (f0 i = true ∧ (N 9).1 i = nI d) ∧ f_N_users N 1 (nI i) ≠ some 0 := ⟨fun i => decide ((f0 i = true ∧ (N 9).1 i = nI d) ∧ f_N_users N 1 (nI i) ≠ some 0), fun i => decide_eq_true_iff⟩
          obtain ⟨f, hf⟩ := hf
          have fc : ∀ j, c ≤ j → f j = false := fun j hj => by
            cases e : f j with
            | false => rfl
            | true => have := ((hf j).mp e).1.1; rw [c4 j hj] at this; cases this
          have hsh : ∀ i, i < 8 → f_K_showsAddress K (nI d) (nI i) = some (if f i = true then 1 else 0) := fun i hi => by
            unfold f_K_showsAddress
            rw [liesB c1 c4 c5 c6 hi, fe_bind]
            obtain ⟨v, v1, v2, v3⟩ := us i
            by_cases e1 : f0 i = true ∧ (N 9).1 i = nI d
            · rw [if_pos e1, if_neg h10, v2, fe_bind, fe_k]
              by_cases e2 : v = 0
              · subst e2
                rw [if_pos (by decide), if_neg (fun z => ((hf i).mp z).2 (by rw [v3]; rfl))]
              · rw [if_neg (by rw [el_0 (by omega)]; exact e2), if_pos ((hf i).mpr ⟨e1, fun z => by
                  rw [v3] at z
                  have z2 := Option.some.inj z
                  rw [eq0 (by omega)] at z2
                  exact e2 z2⟩)]
            · rw [if_neg e1, if_pos rfl, if_neg (fun z => e1 ((hf i).mp z).1)]
          have hq8 := qcnt_le f 8
          have e8 : qcnt f c = qcnt f 8 := by
            have := qcnt_ext (f := f) (c := c) fc (8 - c)
            rw [show c + (8 - c) = 8 by omega] at this
            exact this.symm
          refine ⟨s + qcnt f 8, fun l => if l < s then 1000 * nI d + (N 18).1 (6 * d + 3 * 1 + l) else ((1000 * nI d) + 100) + nI (qnth f (l - s) c), by omega, ?_, fun l hl => ?_, fun l hl => ?_, fun k Kf kk n rec hn hk => ?_⟩
          · rw [hdel]
            have : f_D_isDelegated K d = some 1 := by
              unfold f_D_isDelegated
              rw [a, if_neg h10, b4, if_pos g1, b3, if_pos g2, s2, fe_k, if_neg (by rw [el_0 (by omega)]; exact g3)]
            rw [this, fe_bind, if_neg h10, s2]
            refine lp_cntA f (by omega) (fun i hi a rec => ?_) (fun a rec => ?_)
            · unfold lb_K_zoneRowsOf_31
              rw [if_neg (nl8 hi), hsh i hi, fe_bind, ea1]
              by_cases e : f i = true
              · rw [if_pos e, if_pos e, if_neg h10]
              · rw [if_neg e, if_neg e, if_pos rfl]
            · unfold lb_K_zoneRowsOf_31
              rw [if_pos (by decide)]
          · unfold f_K_zoneRowOf
            simp only [if_pos (ri hd (show 10 < 2 ^ 31 by decide)), ev_c (show d < 2 ^ 31 by omega), s2, eLL (show s < 2 ^ 31 by omega) (show l < 2 ^ 31 by omega)]
            by_cases e : l < s
            · rw [if_neg (by omega), if_pos e]
              obtain ⟨s', s9, t2, -, t4⟩ := atB (k := l) (p := nI l) (by omega) rfl (b7 1 (by omega))
              rw [t4, fe_bind]
              obtain rfl : s' = s := by rw [s3, eII (by omega) (by omega)] at t2; exact t2.symm
              rw [if_neg (by omega)]
            · rw [if_pos (by omega), if_neg e]
              obtain ⟨x, x1, x2, x3⟩ := qcnt_find (f := f) (m := l - s) 8 (by omega)
              have xc : x < c := by
                rcases Nat.lt_or_ge x c with z | z
                · exact z
                · rw [fc x z] at x2; cases x2
              rw [qnth_eq x2 x3 c xc]
              have key : ∀ (r i fu : Nat), i + r = x → r < fu → rd_it (fun _ _ => none) (lb_K_zoneRowOf_43 K d 1 (nI d) (nI l) (fun _ _ => some (-1))) fu (nI i) (nI (qcnt f x - qcnt f i)) = some (((1000 * nI d) + 100) + nI x) := by
                intro r
                induction r with
                | zero =>
                  intro i fu hi hf'
                  obtain ⟨fu, rfl⟩ : ∃ f, fu = f + 1 := ⟨fu - 1, by omega⟩
                  obtain rfl : i = x := by omega
                  rw [rd_it_s]
                  unfold lb_K_zoneRowOf_43
                  rw [if_neg (nl8 x1), hsh i x1, fe_bind, if_pos x2, if_neg h10, if_pos (by rw [Nat.sub_self]; rfl)]
                | succ r ih =>
                  intro i fu hi hf'
                  obtain ⟨fu, rfl⟩ : ∃ f, fu = f + 1 := ⟨fu - 1, by omega⟩
                  have ih1 := ih (i + 1) fu (by omega) (by omega)
                  have hle := qcnt_mono (f := f) (a := i + 1) (x - (i + 1))
                  rw [show i + 1 + (x - (i + 1)) = x by omega] at hle
                  have hx8 := qcnt_le f x
                  rw [rd_it_s]
                  show lb_K_zoneRowOf_43 K d 1 (nI d) (nI l) (fun _ _ => some (-1)) (rd_it (fun _ _ => none) (lb_K_zoneRowOf_43 K d 1 (nI d) (nI l) (fun _ _ => some (-1))) fu) (nI i) (nI (qcnt f x - qcnt f i)) = _
                  revert ih1
                  generalize rd_it (fun _ _ => none) (lb_K_zoneRowOf_43 K d 1 (nI d) (nI l) (fun _ _ => some (-1))) fu = rec
                  intro ih1
                  unfold lb_K_zoneRowOf_43
                  rw [if_neg (nl8 (show i < 8 by omega)), hsh i (by omega), fe_bind, ea1]
                  rw [qcnt_s] at ih1 hle
                  by_cases e : f i = true
                  · rw [if_pos e] at ih1 hle
                    rw [if_pos e, if_neg h10, if_neg (by rw [eq0 (by omega)]; omega)]
                    rw [show nI (qcnt f x - qcnt f i) + (-1) = nI (qcnt f x - (qcnt f i + 1)) from by
                      rw [show qcnt f x - qcnt f i = (qcnt f x - (qcnt f i + 1)) + 1 by omega]
                      exact ea_1]
                    exact ih1
                  · rw [if_neg e] at ih1 hle
                    rw [if_neg e, if_pos rfl]
                    exact ih1
              have k0 := key x 0 64 (by omega) (by omega)
              have e3 : nI l - nI s = nI (qcnt f x - qcnt f 0) := by
                rw [x3, show qcnt f 0 = 0 from rfl, Nat.sub_zero]
                exact (Int32.ofNat_sub _ _ (by omega)).symm
              rw [e3]
              exact k0
          · by_cases e : l < s
            · obtain ⟨m, m1, m2⟩ := h.2.2.2.2.2.2.2.1.2 (6 * d + 3 * 1 + l) (by omega)
              refine ⟨1000 * d + m, by omega, ?_⟩
              simp only [if_pos e]
              rw [m2, show (1000 : Int32) * nI d = nI (1000 * d) from em_mul 1000 d, nI_add]
            · obtain ⟨x, x1, x2, x3⟩ := qcnt_find (f := f) (m := l - s) 8 (by omega)
              have xc : x < c := by
                rcases Nat.lt_or_ge x c with z | z
                · exact z
                · rw [fc x z] at x2; cases x2
              refine ⟨1000 * d + 100 + x, by omega, ?_⟩
              simp only [if_neg e]
              rw [qnth_eq x2 x3 c xc, show (1000 : Int32) * nI d = nI (1000 * d) from em_mul 1000 d, show nI (1000 * d) + 100 = nI (1000 * d + 100) from nI_add _ 100, nI_add]
          · have hz : ¬ (N 19).1 (2 * d + 1) = 0 := by rw [s3, eq0 (by omega)]; exact g3
            rw [hrow, if_pos h0, if_pos g1, if_pos g2, if_neg hz, s3]
            have e62 := r62 (N := N) (d := d) (s := s) (n := n) (kk := kk) (k := k) (Kf := fun w62_5 w62_2 => rd_it (fun _ _ => none) (lb_N_row_107 N (nI s) (nI d) k (fun w107_5 w107_2 => rec (nI (d + 1)) w107_2)) 64 0 w62_2) hd s1 hn hk s 0 64 (by omega) (by omega)
            refine e62.trans ?_
            by_cases q1 : n ≤ kk ∧ kk < n + s
            · rw [if_pos (show n + 0 ≤ kk ∧ kk < n + s by omega), if_pos (show n ≤ kk ∧ kk < n + (s + qcnt f 8) by omega)]
              simp only [if_pos (show kk - n < s by omega)]
            · rw [if_neg (show ¬ (n + 0 ≤ kk ∧ kk < n + s) by omega)]
              have e107 := r107 (N := N) (d := d) (c := c) (n := n + s) (kk := kk) (q := nI s) (k := k) (Kf := fun w107_5 w107_2 => rec (nI (d + 1)) w107_2) (f := f) c1 (by omega) hk (fun i hi v rec => by
                unfold lb_N_row_107
                obtain ⟨v', v1, v2, v3⟩ := us i
                rw [c2, if_neg (nI_ge hi (by omega)), if_pos (ri (show i < 8 by omega) (by decide)), if_pos (ri (show i < 8 by omega) (by decide)), ev_c (by omega), v3, fe_bind, ea1]
                rcases c6 i hi with ⟨x, y⟩ | ⟨x, ⟨m, m1, m2⟩, y, -⟩
                · rw [y, if_pos (by decide), if_neg (fun z => by have := ((hf i).mp z).1.1; rw [x] at this; cases this)]
                · rw [m2, if_neg (nI_pos (by omega))]
                  by_cases e1 : (N 9).1 i = nI d
                  · rw [if_pos e1]
                    by_cases e2 : nI v' = 0
                    · rw [if_pos e2, if_neg (fun z => ((hf i).mp z).2 (by rw [v3, e2]))]
                    · rw [if_neg e2, if_pos ((hf i).mpr ⟨⟨x, e1⟩, fun z => e2 (Option.some.inj (v3.symm.trans z))⟩)]
                  · rw [if_neg e1, if_neg (fun z => e1 ((hf i).mp z).1.2)]) (fun v rec => by
                unfold lb_N_row_107
                rw [c2, if_pos (nI_le (Nat.le_refl _) (by omega))]) c 0 64 (by omega) (by omega)
              refine e107.trans ?_
              rw [e8]
              by_cases q2 : n ≤ kk ∧ kk < n + (s + qcnt f 8)
              · rw [if_pos (show n + s + qcnt f 0 ≤ kk ∧ kk < n + s + qcnt f 8 by have : qcnt f 0 = 0 := rfl; omega), if_pos q2]
                simp only [if_neg (show ¬ kk - n < s by omega), show kk - (n + s) = kk - n - s by omega]
              · rw [if_neg (show ¬ (n + s + qcnt f 0 ≤ kk ∧ kk < n + s + qcnt f 8) by have : qcnt f 0 = 0 := rfl; omega), if_neg q2, show n + s + qcnt f 8 = n + (s + qcnt f 8) by omega]
      · exact none0 (by unfold f_D_isDelegated; rw [a, if_neg h10, b4, if_pos g1, b3, if_neg g2]) (fun k Kf rec v => by rw [hrow, if_pos h0, if_pos g1, if_neg g2])
    · exact none0 (by unfold f_D_isDelegated; rw [a, if_neg h10, b4, if_neg g1]) (fun k Kf rec v => by rw [hrow, if_pos h0, if_neg g1])
