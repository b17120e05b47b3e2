/-! the law, turn by turn -/
def qL (u : Nat) (M : rd_M) : Prop := qR u 10 (fun k => M (0 + k)) (fun k => M (117 + k))
theorem qR.eq {u e : Nat} {K K' N N' : rd_M} (h : qR u e K N) (hK : ∀ c, c < 117 → K' c = K c) (hN : ∀ c, c < 22 → N' c = N c) : qR u e K' N' := by
  obtain ⟨h0, ⟨t, t1, t2, t3⟩, h2, h3, h4, h5, h6, h7, h8⟩ := h
  refine ⟨h0, ⟨t, t1, by rw [hK 0 (by omega)]; exact t2, by rw [hN 0 (by omega)]; exact t3⟩, fun k hk => by rw [hK 1 (by omega), hN 1 (by omega)]; exact h2 k hk, fun r hr => (h3 r hr).cg (Nat.le_refl _) (hK _ (by omega)) (hK _ (by omega)) (hK _ (by omega)) (by rw [hN 2 (by omega)]) (fun k _ => by rw [hN 3 (by omega)]) (by rw [hN 4 (by omega)]) (fun i _ => by rw [hN 5 (by omega)]), h4.cg (fun c h1 _ => hK c (by omega)) (by rw [hN 0 (by omega)]) (fun i _ => by rw [hN 6 (by omega)]), h5.cg (fun c h1 _ => hK c (by omega)) (by rw [hN 0 (by omega)]) (fun i _ => by rw [hN 7 (by omega), hN 8 (by omega), hN 9 (by omega)]; exact ⟨rfl, rfl, rfl⟩), fun d hd w hw => by rw [hK _ (by omega)]; exact h6 d hd w hw, ⟨fun j hj => by rw [hN 19 (by omega)]; exact h7.1 j hj, fun j hj => by rw [hN 18 (by omega)]; exact h7.2 j hj⟩, fun d hd hne => (h8 d hd hne).cg (fun c _ _ => hK c (by omega)) (fun c j ho => by rw [hN c (by unfold qO at ho; omega)]; exact ⟨rfl, rfl⟩)⟩
theorem qS.up {α : Type} {ρ : α → α → Prop} {u u' : Nat} {K : rd_M} {x : Option (String ⊕ (α × rd_M))} {y : Option (α × rd_M)} (h : qS ρ u K x y) (hu : u ≤ u') (hu2 : u' ≤ 400000) : qS ρ u' K x y := by
  obtain ⟨b, N', e1, e2⟩ := h
  refine ⟨b, N', e1, ?_⟩
  rcases e2 with ⟨E, c, x1, x2, x3, x4⟩ | ⟨a, K', x1, x2, x3, x4⟩
  · exact Or.inl ⟨E, c, x1, x2, x3, x4.up hu hu2⟩
  · exact Or.inr ⟨a, K', x1, x2, x3, x4.up hu hu2⟩
theorem lg0 (a : Int64) : lg_cmp a a = 0 := by
  unfold lg_cmp
  rw [if_neg (fun z => absurd (Int64.lt_iff_toInt_lt.mp z) (Int.lt_irrefl _)), if_pos rfl]
theorem pmI {n b : Nat} {M M1 : rd_M} {k : Nat} (h : b ≤ k ∧ k < b + n) : rd_pm n b M M1 k = M1 (k - b) := by unfold rd_pm; rw [if_pos h]
theorem pmO {n b : Nat} {M M1 : rd_M} {k : Nat} (h : ¬ (b ≤ k ∧ k < b + n)) : rd_pm n b M M1 k = M k := by unfold rd_pm; rw [if_neg h]
theorem rdE {E : String} {c : Int32} {M : rd_M} (h : qE E c) : (if E = "java/lang/IllegalArgumentException" then some ((1 : Int32), M)
    else if E = "java/util/NoSuchElementException" then some (2, M)
    else if E = "java/lang/UnsupportedOperationException" then some (3, M)
    else if E = "java/lang/IllegalStateException" then some (4, M)
    else none) = some (c, M) ∧ ¬ c = 0 := by
  rcases h with ⟨rfl, rfl⟩ | ⟨rfl, rfl⟩ | ⟨rfl, rfl⟩ | ⟨rfl, rfl⟩
  · exact ⟨if_pos rfl, by decide⟩
  · rw [if_neg (by decide), if_pos rfl]; exact ⟨rfl, by decide⟩
  · rw [if_neg (by decide), if_neg (by decide), if_pos rfl]; exact ⟨rfl, by decide⟩
  · rw [if_neg (by decide), if_neg (by decide), if_neg (by decide), if_pos rfl]; exact ⟨rfl, by decide⟩
/-- the reference's answer is put where it belongs -/
theorem putN {u : Nat} {M M1 K' N' : rd_M} (hK : ∀ k, k < 117 → M1 k = K' k) (h : qR u 10 K' N') : qL u (rd_pm 22 117 M1 N') := by
  refine h.eq (fun c hc => ?_) (fun c hc => ?_)
  · show rd_pm 22 117 M1 N' (0 + c) = K' c
    rw [Nat.zero_add, pmO (by omega), hK c hc]
  · show rd_pm 22 117 M1 N' (117 + c) = N' c
    rw [pmI (by omega), Nat.add_sub_cancel_left]
theorem thr {M1 N' : rd_M} : f_N_thrown (fun k => (rd_pm 22 117 M1 N') (117 + k)) = some ((N' 0).1 0) := by
  unfold f_N_thrown
  show some ((rd_pm 22 117 M1 N' (117 + 0)).1 0) = _
  rw [pmI (by omega)]

theorem lawI {u u' : Nat} {M : rd_M} {x : Option (String ⊕ (Int32 × rd_M))} {Y : rd_M → Option (Int32 × rd_M)} (h : qL u M) (hs : ∀ N1, qR u 10 (fun k => M (0 + k)) N1 → qS Eq u' (fun k => M (0 + k)) x (Y N1)) (R : rd_M → Option Int32) : ∃ M', qL u' M' ∧ ((rd_c x (fun E =>
    if E = "java/lang/IllegalArgumentException" then some ((1 : Int32), M)
    else if E = "java/util/NoSuchElementException" then some (2, M)
    else if E = "java/lang/UnsupportedOperationException" then some (3, M)
    else if E = "java/lang/IllegalStateException" then some (4, M)
    else none) fun r1 => rd_k (rd_lU (rd_pm 117 0 M r1.2) 139 0 r1.1.toInt64) fun M2 => some (0, M2)).bind fun r6 => (Y (fun k => r6.2 (117 + k))).bind fun r9 => (f_N_thrown (fun k => (rd_pm 22 117 r6.2 r9.2) (117 + k))).bind fun r10 => if r10 = r6.1 then (if r6.1 = 0 then (if (lg_cmp (((rd_pm 22 117 r6.2 r9.2) 139).2.1 0) r9.1.toInt64) = 0 then R (rd_pm 22 117 r6.2 r9.2) else some 0) else R (rd_pm 22 117 r6.2 r9.2)) else some 0) = R M' := by
  obtain ⟨b, N', e1, e2⟩ := hs _ h
  rcases e2 with ⟨E, c, x1, hE, hc, hq⟩ | ⟨a, K', x1, hab, hc, hq⟩
  · have x1' := x1
    obtain ⟨w1, w2⟩ := rdE (M := M) hE
    refine ⟨rd_pm 22 117 M N', putN (M := M) (fun k _ => by show M k = M (0 + k); rw [Nat.zero_add]) hq, ?_⟩
    rw [x1', show ∀ (F : Int32 × rd_M → Option (Int32 × rd_M)), rd_c (some (.inl E)) (fun E =>     if E = "java/lang/IllegalArgumentException" then some ((1 : Int32), M)     else if E = "java/util/NoSuchElementException" then some (2, M)     else if E = "java/lang/UnsupportedOperationException" then some (3, M)     else if E = "java/lang/IllegalStateException" then some (4, M)     else none) F = some (c, M) from fun F => w1, fe_bind]
    show ((Y fun k => M (117 + k)).bind _) = _
    rw [e1, fe_bind, thr, fe_bind, if_pos hc, if_neg w2]
  · have x1' := x1
    have hN1 : qR u 10 (fun k => M (0 + k)) (fun k => (rd_lU (rd_pm 117 0 M K') 139 0 a.toInt64) (117 + k)) := h.eq (fun _ _ => rfl) (fun c hc => by show (rd_lU (rd_pm 117 0 M K') 139 0 a.toInt64) (117 + c) = M (117 + c); rw [me_lc (by omega), pmO (by omega)])
    obtain ⟨b2, N2, e3, e5⟩ := hs _ hN1
    rcases e5 with ⟨E, c, y1, -⟩ | ⟨a2, K2, y1, y2, y3, y4⟩
    · rw [x1] at y1; cases y1
    · have hx : a2 = a ∧ K2 = K' := by
        have := x1.symm.trans y1
        cases this
        exact ⟨rfl, rfl⟩
      obtain ⟨rfl, rfl⟩ := hx
      refine ⟨rd_pm 22 117 (rd_lU (rd_pm 117 0 M K2) 139 0 a2.toInt64) N2, putN (M := M) (fun k hk => by rw [me_lc (by omega), pmI (by omega), Nat.sub_zero]) y4, ?_⟩
      have e4 : lg_cmp (((rd_pm 22 117 (rd_lU (rd_pm 117 0 M K2) 139 0 a2.toInt64) N2) 139).2.1 0) b2.toInt64 = 0 := by
        rw [pmO (by omega), me_ll rfl rfl, y2]
        exact lg0 _
      rw [x1', show ∀ (H : String → Option (Int32 × rd_M)) (F : Int32 × rd_M → Option (Int32 × rd_M)), rd_c (some (.inr (a2, K2))) H F = F (a2, K2) from fun _ _ => rfl, fe_k, fe_bind]
      show ((Y fun k => (rd_lU (rd_pm 117 0 M K2) 139 0 a2.toInt64) (117 + k)).bind _) = _
      rw [e3, fe_bind, thr, fe_bind, if_pos y3, if_pos rfl, if_pos e4]
theorem lawIp {u u' : Nat} {M : rd_M} {x : Option (String ⊕ Int32)} {Y : rd_M → Option (Int32 × rd_M)} (h : qL u M) (hs : ∀ N1, qR u 10 (fun k => M (0 + k)) N1 → qS Eq u' (fun k => M (0 + k)) (qpure (fun k => M (0 + k)) x) (Y N1)) (R : rd_M → Option Int32) : ∃ M', qL u' M' ∧ ((rd_c x (fun E =>
    if E = "java/lang/IllegalArgumentException" then some ((1 : Int32), M)
    else if E = "java/util/NoSuchElementException" then some (2, M)
    else if E = "java/lang/UnsupportedOperationException" then some (3, M)
    else if E = "java/lang/IllegalStateException" then some (4, M)
    else none) fun r1 => rd_k (rd_lU M 139 0 r1.toInt64) fun M2 => some (0, M2)).bind fun r6 => (Y (fun k => r6.2 (117 + k))).bind fun r9 => (f_N_thrown (fun k => (rd_pm 22 117 r6.2 r9.2) (117 + k))).bind fun r10 => if r10 = r6.1 then (if r6.1 = 0 then (if (lg_cmp (((rd_pm 22 117 r6.2 r9.2) 139).2.1 0) r9.1.toInt64) = 0 then R (rd_pm 22 117 r6.2 r9.2) else some 0) else R (rd_pm 22 117 r6.2 r9.2)) else some 0) = R M' := by
  obtain ⟨b, N', e1, e2⟩ := hs _ h
  rcases e2 with ⟨E, c, x1, hE, hc, hq⟩ | ⟨a, K', x1, hab, hc, hq⟩
  · have x1' : x = some (.inl E) := by
      cases x with
      | none => cases x1
      | some y => cases y with
        | inl E' => exact congrArg (fun z => some (Sum.inl z)) (Sum.inl.inj (Option.some.inj x1))
        | inr v => cases x1
    obtain ⟨w1, w2⟩ := rdE (M := M) hE
    refine ⟨rd_pm 22 117 M N', putN (M := M) (fun k _ => by show M k = M (0 + k); rw [Nat.zero_add]) hq, ?_⟩
    rw [x1', show ∀ (F : Int32 → Option (Int32 × rd_M)), rd_c (some (.inl E)) (fun E =>     if E = "java/lang/IllegalArgumentException" then some ((1 : Int32), M)     else if E = "java/util/NoSuchElementException" then some (2, M)     else if E = "java/lang/UnsupportedOperationException" then some (3, M)     else if E = "java/lang/IllegalStateException" then some (4, M)     else none) F = some (c, M) from fun F => w1, fe_bind]
    show ((Y fun k => M (117 + k)).bind _) = _
    rw [e1, fe_bind, thr, fe_bind, if_pos hc, if_neg w2]
  · have x1' : x = some (.inr a) ∧ K' = (fun k => M (0 + k)) := by
      cases x with
      | none => cases x1
      | some y => cases y with
        | inl E' => cases x1
        | inr v => cases x1; exact ⟨rfl, rfl⟩
    obtain ⟨x1', rfl⟩ := x1'
    have hN1 : qR u 10 (fun k => M (0 + k)) (fun k => (rd_lU M 139 0 a.toInt64) (117 + k)) := h.eq (fun _ _ => rfl) (fun c hc => by show (rd_lU M 139 0 a.toInt64) (117 + c) = M (117 + c); rw [me_lc (by omega)])
    obtain ⟨b2, N2, e3, e5⟩ := hs _ hN1
    rcases e5 with ⟨E, c, y1, -⟩ | ⟨a2, K2, y1, y2, y3, y4⟩
    · rw [x1] at y1; cases y1
    · have hx : a2 = a ∧ K2 = (fun k => M (0 + k)) := by
        have := x1.symm.trans y1
        cases this
        exact ⟨rfl, rfl⟩
      obtain ⟨rfl, rfl⟩ := hx
      refine ⟨rd_pm 22 117 (rd_lU M 139 0 a2.toInt64) N2, putN (M := M) (fun k hk => by rw [me_lc (by omega), Nat.zero_add]) y4, ?_⟩
      have e4 : lg_cmp (((rd_pm 22 117 (rd_lU M 139 0 a2.toInt64) N2) 139).2.1 0) b2.toInt64 = 0 := by
        rw [pmO (by omega), me_ll rfl rfl, y2]
        exact lg0 _
      rw [x1', show ∀ (H : String → Option (Int32 × rd_M)) (F : Int32 → Option (Int32 × rd_M)), rd_c (some (.inr a2)) H F = F a2 from fun _ _ => rfl, fe_k, fe_bind]
      show ((Y fun k => (rd_lU M 139 0 a2.toInt64) (117 + k)).bind _) = _
      rw [e3, fe_bind, thr, fe_bind, if_pos y3, if_pos rfl, if_pos e4]
theorem lawD {u u' : Nat} {M : rd_M} {x : Option (String ⊕ (UInt64 × rd_M))} {Y : rd_M → Option (UInt64 × rd_M)} (h : qL u M) (hs : ∀ N1, qR u 10 (fun k => M (0 + k)) N1 → qS qF u' (fun k => M (0 + k)) x (Y N1)) (R : rd_M → Option Int32) : ∃ M', qL u' M' ∧ ((rd_c x (fun E =>
    if E = "java/lang/IllegalArgumentException" then some ((1 : Int32), M)
    else if E = "java/util/NoSuchElementException" then some (2, M)
    else if E = "java/lang/UnsupportedOperationException" then some (3, M)
    else if E = "java/lang/IllegalStateException" then some (4, M)
    else none) fun r1 => rd_k (rd_dU (rd_pm 117 0 M r1.2) 140 0 r1.1) fun M2 => some (0, M2)).bind fun r6 => (Y (fun k => r6.2 (117 + k))).bind fun r9 => (f_N_thrown (fun k => (rd_pm 22 117 r6.2 r9.2) (117 + k))).bind fun r10 => if r10 = r6.1 then (if r6.1 = 0 then (if (Op.cmpValue (FP.dcmp (((rd_pm 22 117 r6.2 r9.2) 140).2.2 0) r9.1) .l) = 0 then R (rd_pm 22 117 r6.2 r9.2) else (if (Op.cmpValue (FP.dcmp (((rd_pm 22 117 r6.2 r9.2) 140).2.2 0) (((rd_pm 22 117 r6.2 r9.2) 140).2.2 0)) .l) = 0 then some 0 else (if (Op.cmpValue (FP.dcmp r9.1 r9.1) .l) = 0 then some 0 else R (rd_pm 22 117 r6.2 r9.2)))) else R (rd_pm 22 117 r6.2 r9.2)) else some 0) = R M' := by
  obtain ⟨b, N', e1, e2⟩ := hs _ h
  rcases e2 with ⟨E, c, x1, hE, hc, hq⟩ | ⟨a, K', x1, hab, hc, hq⟩
  · have x1' := x1
    obtain ⟨w1, w2⟩ := rdE (M := M) hE
    refine ⟨rd_pm 22 117 M N', putN (M := M) (fun k _ => by show M k = M (0 + k); rw [Nat.zero_add]) hq, ?_⟩
    rw [x1', show ∀ (F : UInt64 × rd_M → Option (Int32 × rd_M)), rd_c (some (.inl E)) (fun E =>     if E = "java/lang/IllegalArgumentException" then some ((1 : Int32), M)     else if E = "java/util/NoSuchElementException" then some (2, M)     else if E = "java/lang/UnsupportedOperationException" then some (3, M)     else if E = "java/lang/IllegalStateException" then some (4, M)     else none) F = some (c, M) from fun F => w1, fe_bind]
    show ((Y fun k => M (117 + k)).bind _) = _
    rw [e1, fe_bind, thr, fe_bind, if_pos hc, if_neg w2]
  · have x1' := x1
    have hN1 : qR u 10 (fun k => M (0 + k)) (fun k => (rd_dU (rd_pm 117 0 M K') 140 0 a) (117 + k)) := h.eq (fun _ _ => rfl) (fun c hc => by show (rd_dU (rd_pm 117 0 M K') 140 0 a) (117 + c) = M (117 + c); rw [me_dc (by omega), pmO (by omega)])
    obtain ⟨b2, N2, e3, e5⟩ := hs _ hN1
    rcases e5 with ⟨E, c, y1, -⟩ | ⟨a2, K2, y1, y2, y3, y4⟩
    · rw [x1] at y1; cases y1
    · have hx : a2 = a ∧ K2 = K' := by
        have := x1.symm.trans y1
        cases this
        exact ⟨rfl, rfl⟩
      obtain ⟨rfl, rfl⟩ := hx
      refine ⟨rd_pm 22 117 (rd_dU (rd_pm 117 0 M K2) 140 0 a2) N2, putN (M := M) (fun k hk => by rw [me_dc (by omega), pmI (by omega), Nat.sub_zero]) y4, ?_⟩
      obtain ⟨i, i1, i2⟩ := y2
      have e4 : Op.cmpValue (FP.dcmp (((rd_pm 22 117 (rd_dU (rd_pm 117 0 M K2) 140 0 a2) N2) 140).2.2 0) b2) .l = 0 := by
        rw [pmO (by omega), me_dd rfl rfl]
        exact cv_eq i1 i2
      rw [x1', show ∀ (H : String → Option (Int32 × rd_M)) (F : UInt64 × rd_M → Option (Int32 × rd_M)), rd_c (some (.inr (a2, K2))) H F = F (a2, K2) from fun _ _ => rfl, fe_k, fe_bind]
      show ((Y fun k => (rd_dU (rd_pm 117 0 M K2) 140 0 a2) (117 + k)).bind _) = _
      rw [e3, fe_bind, thr, fe_bind, if_pos y3, if_pos rfl, if_pos e4]
theorem lawDp {u u' : Nat} {M : rd_M} {x : Option (String ⊕ UInt64)} {Y : rd_M → Option (UInt64 × rd_M)} (h : qL u M) (hs : ∀ N1, qR u 10 (fun k => M (0 + k)) N1 → qS qF u' (fun k => M (0 + k)) (qpure (fun k => M (0 + k)) x) (Y N1)) (R : rd_M → Option Int32) : ∃ M', qL u' M' ∧ ((rd_c x (fun E =>
    if E = "java/lang/IllegalArgumentException" then some ((1 : Int32), M)
    else if E = "java/util/NoSuchElementException" then some (2, M)
    else if E = "java/lang/UnsupportedOperationException" then some (3, M)
    else if E = "java/lang/IllegalStateException" then some (4, M)
    else none) fun r1 => rd_k (rd_dU M 140 0 r1) fun M2 => some (0, M2)).bind fun r6 => (Y (fun k => r6.2 (117 + k))).bind fun r9 => (f_N_thrown (fun k => (rd_pm 22 117 r6.2 r9.2) (117 + k))).bind fun r10 => if r10 = r6.1 then (if r6.1 = 0 then (if (Op.cmpValue (FP.dcmp (((rd_pm 22 117 r6.2 r9.2) 140).2.2 0) r9.1) .l) = 0 then R (rd_pm 22 117 r6.2 r9.2) else (if (Op.cmpValue (FP.dcmp (((rd_pm 22 117 r6.2 r9.2) 140).2.2 0) (((rd_pm 22 117 r6.2 r9.2) 140).2.2 0)) .l) = 0 then some 0 else (if (Op.cmpValue (FP.dcmp r9.1 r9.1) .l) = 0 then some 0 else R (rd_pm 22 117 r6.2 r9.2)))) else R (rd_pm 22 117 r6.2 r9.2)) else some 0) = R M' := by
  obtain ⟨b, N', e1, e2⟩ := hs _ h
  rcases e2 with ⟨E, c, x1, hE, hc, hq⟩ | ⟨a, K', x1, hab, hc, hq⟩
  · have x1' : x = some (.inl E) := by
      cases x with
      | none => cases x1
      | some y => cases y with
        | inl E' => exact congrArg (fun z => some (Sum.inl z)) (Sum.inl.inj (Option.some.inj x1))
        | inr v => cases x1
    obtain ⟨w1, w2⟩ := rdE (M := M) hE
    refine ⟨rd_pm 22 117 M N', putN (M := M) (fun k _ => by show M k = M (0 + k); rw [Nat.zero_add]) hq, ?_⟩
    rw [x1', show ∀ (F : UInt64 → Option (Int32 × rd_M)), rd_c (some (.inl E)) (fun E =>     if E = "java/lang/IllegalArgumentException" then some ((1 : Int32), M)     else if E = "java/util/NoSuchElementException" then some (2, M)     else if E = "java/lang/UnsupportedOperationException" then some (3, M)     else if E = "java/lang/IllegalStateException" then some (4, M)     else none) F = some (c, M) from fun F => w1, fe_bind]
    show ((Y fun k => M (117 + k)).bind _) = _
    rw [e1, fe_bind, thr, fe_bind, if_pos hc, if_neg w2]
  · have x1' : x = some (.inr a) ∧ K' = (fun k => M (0 + k)) := by
      cases x with
      | none => cases x1
      | some y => cases y with
        | inl E' => cases x1
        | inr v => cases x1; exact ⟨rfl, rfl⟩
    obtain ⟨x1', rfl⟩ := x1'
    have hN1 : qR u 10 (fun k => M (0 + k)) (fun k => (rd_dU M 140 0 a) (117 + k)) := h.eq (fun _ _ => rfl) (fun c hc => by show (rd_dU M 140 0 a) (117 + c) = M (117 + c); rw [me_dc (by omega)])
    obtain ⟨b2, N2, e3, e5⟩ := hs _ hN1
    rcases e5 with ⟨E, c, y1, -⟩ | ⟨a2, K2, y1, y2, y3, y4⟩
    · rw [x1] at y1; cases y1
    · have hx : a2 = a ∧ K2 = (fun k => M (0 + k)) := by
        have := x1.symm.trans y1
        cases this
        exact ⟨rfl, rfl⟩
      obtain ⟨rfl, rfl⟩ := hx
      refine ⟨rd_pm 22 117 (rd_dU M 140 0 a2) N2, putN (M := M) (fun k hk => by rw [me_dc (by omega), Nat.zero_add]) y4, ?_⟩
      obtain ⟨i, i1, i2⟩ := y2
      have e4 : Op.cmpValue (FP.dcmp (((rd_pm 22 117 (rd_dU M 140 0 a2) N2) 140).2.2 0) b2) .l = 0 := by
        rw [pmO (by omega), me_dd rfl rfl]
        exact cv_eq i1 i2
      rw [x1', show ∀ (H : String → Option (Int32 × rd_M)) (F : UInt64 → Option (Int32 × rd_M)), rd_c (some (.inr a2)) H F = F a2 from fun _ _ => rfl, fe_k, fe_bind]
      show ((Y fun k => (rd_dU M 140 0 a2) (117 + k)).bind _) = _
      rw [e3, fe_bind, thr, fe_bind, if_pos y3, if_pos rfl, if_pos e4]
