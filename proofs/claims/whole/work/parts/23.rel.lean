/-! what a desk's memory K and the reference's N have to do with each other -/
def qTh (x : rd_Ce) (o : Int32) : Prop := (x.1 0 = 0 ∧ o = -1) ∨ (x.1 0 = 1 ∧ x.1 1 = o ∧ ∃ m, m < 4 ∧ o = nI m)
def qDay (u : Nat) (K N : rd_M) : Prop := ∃ t, t ≤ u ∧ (K 0).1 4 = nI t ∧ (N 0).1 1 = nI t
def qP (K N : rd_M) : Prop := ∀ k, k < 4 → fq_D ((N 1).2.1 k).toInt ((K 1).2.2 k) ∧ ∃ q : Nat, q ≤ 8000 ∧ ((N 1).2.1 k).toInt = 8 * (q : Int)
def qA (u r : Nat) (K N : rd_M) : Prop := (fq_D ((N 2).2.1 r).toInt ((K (3 + 3 * r)).2.2 2) ∧ ((N 2).2.1 r).toInt.natAbs ≤ u * 1000000) ∧ (∀ k, k < 4 → fq_D ((N 3).2.1 (4 * r + k)).toInt ((K (4 + 3 * r)).2.2 k) ∧ ((N 3).2.1 (4 * r + k)).toInt.natAbs ≤ u * 1000000) ∧ ∃ c, c ≤ 12 ∧ (K (3 + 3 * r)).1 3 = nI c ∧ (N 4).1 r = nI c ∧ ∀ i, i < c → (K (5 + 3 * r)).1 i = (N 5).1 (12 * r + i)
def qC (K N : rd_M) : Prop := ∃ c, c ≤ 8 ∧ (K (16 + 10 * 0)).1 1 = nI c ∧ (N 0).1 7 = nI c ∧ ∀ i, i < c → qTh (K (18 + 10 * 0 + i)) ((N 6).1 i)
def qH (K N : rd_M) : Prop := ∃ c, c ≤ 8 ∧ (K (16 + 10 * 1)).1 1 = nI c ∧ (N 0).1 9 = nI c ∧ ∀ i, i < c → qTh (K (18 + 10 * 1 + i)) ((N 7).1 i) ∧ ((K (18 + 10 * 1 + i)).1 0 = 1 → (K (18 + 10 * 1 + i)).1 2 = (N 9).1 i ∧ (K (18 + 10 * 1 + i)).1 3 = (N 8).1 i)
def qZ (K : rd_M) : Prop := ∀ d, d < 10 → ∀ w, w < 2 → ∃ s, s ≤ 3 ∧ (K (39 + 8 * d + 2 * w)).1 1 = nI s
def qY (N : rd_M) : Prop := (∀ j, j < 20 → ∃ s, s ≤ 3 ∧ (N 19).1 j = nI s) ∧ ∀ j, j < 60 → ∃ m, m < 8 ∧ (N 18).1 j = nI m
def qW (d w : Nat) (K N : rd_M) : Prop := ∃ s, s ≤ 3 ∧ (K (39 + 8 * d + 2 * w)).1 1 = nI s ∧ (N 19).1 (2 * d + w) = nI s ∧ ∀ i, i < s → (K (40 + 8 * d + 2 * w)).1 i = (N 18).1 (6 * d + 3 * w + i)
def qG (d k : Nat) (K N : rd_M) : Prop := (K (44 + 8 * d)).1 k = (N 21).1 (5 * d + k) ∧ ((N 21).1 (5 * d + k) = -1 ∨ (k ≠ 3 ∧ fq_D ((N 20).2.1 (5 * d + k)).toInt ((K (43 + 8 * d)).2.2 k) ∧ 0 ≤ ((N 20).2.1 (5 * d + k)).toInt ∧ ((N 20).2.1 (5 * d + k)).toInt ≤ 192000))
def qT (d : Nat) (K N : rd_M) : Prop := (∃ o, o < 4 ∧ (K (37 + 8 * d)).1 4 = nI o ∧ (N 10).1 d = nI o) ∧ (K (37 + 8 * d)).1 5 = (N 11).1 d ∧ (K (37 + 8 * d)).1 6 = (N 12).1 d ∧ (K (37 + 8 * d)).1 7 = (N 13).1 d ∧ (K (37 + 8 * d)).1 8 = (N 14).1 d ∧ ((N 14).1 d = 0 ∨ (((N 14).1 d = 1 ∨ (N 14).1 d = 2) ∧ (K (37 + 8 * d)).1 9 = (N 15).1 d)) ∧ (((K (37 + 8 * d)).1 10 = -1 ∧ (N 16).1 d = -1) ∨ ∃ w, w < 4 ∧ (K (37 + 8 * d)).1 10 = nI w ∧ (N 16).1 d = nI w ∧ (K (37 + 8 * d)).1 11 = (N 17).1 d) ∧ (∀ w, w < 2 → qW d w K N) ∧ ∀ k, k < 5 → qG d k K N
def qD (d : Nat) (K N : rd_M) : Prop := ((K (37 + 8 * d)).1 3 = 0 ∧ (N 10).1 d = -1) ∨ ((K (37 + 8 * d)).1 3 = 1 ∧ qT d K N)
def qR (u e : Nat) (K N : rd_M) : Prop := u ≤ 400000 ∧ qDay u K N ∧ qP K N ∧ (∀ r, r < 4 → qA u r K N) ∧ qC K N ∧ qH K N ∧ qZ K ∧ qY N ∧ ∀ d, d < 10 → d ≠ e → qD d K N
/-- the places of the reference that belong to the domain d -/
def qO (d c j : Nat) : Prop := (10 ≤ c ∧ c ≤ 17 ∧ j = d) ∨ (c = 18 ∧ 6 * d ≤ j ∧ j < 6 * d + 6) ∨ (c = 19 ∧ 2 * d ≤ j ∧ j < 2 * d + 2) ∨ ((c = 20 ∨ c = 21) ∧ 5 * d ≤ j ∧ j < 5 * d + 5)
theorem qA.cg {u u' r : Nat} {K K' N N' : rd_M} (h : qA u r K N) (hu : u ≤ u') (h1 : K' (3 + 3 * r) = K (3 + 3 * r)) (h2 : K' (4 + 3 * r) = K (4 + 3 * r)) (h3 : K' (5 + 3 * r) = K (5 + 3 * r)) (n2 : (N' 2).2.1 r = (N 2).2.1 r) (n3 : ∀ k, k < 4 → (N' 3).2.1 (4 * r + k) = (N 3).2.1 (4 * r + k)) (n4 : (N' 4).1 r = (N 4).1 r) (n5 : ∀ i, i < 12 → (N' 5).1 (12 * r + i) = (N 5).1 (12 * r + i)) : qA u' r K' N' := by
  obtain ⟨⟨a1, a2⟩, a3, c, c1, c2, c3, c4⟩ := h
  refine ⟨⟨by rw [h1, n2]; exact a1, by rw [n2]; exact Nat.le_trans a2 (Nat.mul_le_mul_right _ hu)⟩, fun k hk => ⟨by rw [h2, n3 k hk]; exact (a3 k hk).1, by rw [n3 k hk]; exact Nat.le_trans (a3 k hk).2 (Nat.mul_le_mul_right _ hu)⟩, c, c1, by rw [h1]; exact c2, by rw [n4]; exact c3, fun i hi => ?_⟩
  rw [h3, n5 i (by omega)]
  exact c4 i hi
theorem qD.cg {d : Nat} {K K' N N' : rd_M} (h : qD d K N) (hK : ∀ c, 37 + 8 * d ≤ c → c ≤ 44 + 8 * d → K' c = K c) (hN : ∀ c j, qO d c j → (N' c).1 j = (N c).1 j ∧ (N' c).2.1 j = (N c).2.1 j) : qD d K' N' := by
  have k0 : K' (37 + 8 * d) = K (37 + 8 * d) := hK _ (by omega) (by omega)
  have k7 : K' (44 + 8 * d) = K (44 + 8 * d) := hK _ (by omega) (by omega)
  have k6 : K' (43 + 8 * d) = K (43 + 8 * d) := hK _ (by omega) (by omega)
  have n10 : (N' 10).1 d = (N 10).1 d := (hN 10 d (by unfold qO; omega)).1
  rcases h with ⟨a, b⟩ | ⟨a, ⟨o, o1, o2, o3⟩, b1, b2, b3, b4, b5, b6, b7, b8⟩
  · exact Or.inl ⟨by rw [k0]; exact a, by rw [n10]; exact b⟩
  · have n11 : (N' 11).1 d = (N 11).1 d := (hN 11 d (by unfold qO; omega)).1
    have n12 : (N' 12).1 d = (N 12).1 d := (hN 12 d (by unfold qO; omega)).1
    have n13 : (N' 13).1 d = (N 13).1 d := (hN 13 d (by unfold qO; omega)).1
    have n14 : (N' 14).1 d = (N 14).1 d := (hN 14 d (by unfold qO; omega)).1
    have n15 : (N' 15).1 d = (N 15).1 d := (hN 15 d (by unfold qO; omega)).1
    have n16 : (N' 16).1 d = (N 16).1 d := (hN 16 d (by unfold qO; omega)).1
    have n17 : (N' 17).1 d = (N 17).1 d := (hN 17 d (by unfold qO; omega)).1
    refine Or.inr ⟨by rw [k0]; exact a, ⟨o, o1, by rw [k0]; exact o2, by rw [n10]; exact o3⟩, by rw [k0, n11]; exact b1, by rw [k0, n12]; exact b2, by rw [k0, n13]; exact b3, by rw [k0, n14]; exact b4, by rw [k0, n14, n15]; exact b5, by rw [k0, n16, n17]; exact b6, fun w hw => ?_, fun k hk => ?_⟩
    · obtain ⟨s, s1, s2, s3, s4⟩ := b7 w hw
      refine ⟨s, s1, by rw [hK _ (by omega) (by omega)]; exact s2, by rw [(hN 19 _ (by unfold qO; omega)).1]; exact s3, fun i hi => ?_⟩
      rw [hK _ (by omega) (by omega), (hN 18 _ (by unfold qO; omega)).1]
      exact s4 i hi
    · have e1 := hN 21 (5 * d + k) (by unfold qO; omega)
      have e2 := hN 20 (5 * d + k) (by unfold qO; omega)
      show (K' (44 + 8 * d)).1 k = (N' 21).1 (5 * d + k) ∧ _
      rw [k7, k6, e1.1, e2.2]
      exact b8 k hk
theorem qC.cg {K K' N N' : rd_M} (h : qC K N) (hK : ∀ c, 16 ≤ c → c ≤ 25 → K' c = K c) (n0 : (N' 0).1 7 = (N 0).1 7) (n6 : ∀ i, i < 8 → (N' 6).1 i = (N 6).1 i) : qC K' N' := by
  obtain ⟨c, c1, c2, c3, c4⟩ := h
  refine ⟨c, c1, by rw [hK _ (by omega) (by omega)]; exact c2, by rw [n0]; exact c3, fun i hi => ?_⟩
  rw [hK _ (by omega) (by omega), n6 i (by omega)]
  exact c4 i hi
theorem qH.cg {K K' N N' : rd_M} (h : qH K N) (hK : ∀ c, 26 ≤ c → c ≤ 35 → K' c = K c) (n0 : (N' 0).1 9 = (N 0).1 9) (n6 : ∀ i, i < 8 → (N' 7).1 i = (N 7).1 i ∧ (N' 8).1 i = (N 8).1 i ∧ (N' 9).1 i = (N 9).1 i) : qH K' N' := by
  obtain ⟨c, c1, c2, c3, c4⟩ := h
  refine ⟨c, c1, by rw [hK _ (by omega) (by omega)]; exact c2, by rw [n0]; exact c3, fun i hi => ?_⟩
  rw [hK _ (by omega) (by omega), (n6 i (by omega)).1, (n6 i (by omega)).2.1, (n6 i (by omega)).2.2]
  exact c4 i hi
theorem qR.ex {u e : Nat} {K N : rd_M} (h : qR u 10 K N) : qR u e K N := by
  obtain ⟨h0, h1, h2, h3, h4, h5, h6, h7, h8⟩ := h
  exact ⟨h0, h1, h2, h3, h4, h5, h6, h7, fun d hd _ => h8 d hd (by omega)⟩
theorem qR.cl {u e : Nat} {K N : rd_M} (h : qR u e K N) (hd : qD e K N) : qR u 10 K N := by
  obtain ⟨h0, h1, h2, h3, h4, h5, h6, h7, h8⟩ := h
  refine ⟨h0, h1, h2, h3, h4, h5, h6, h7, fun d hd' _ => ?_⟩
  by_cases e1 : d = e
  · rw [e1]; exact hd
  · exact h8 d hd' e1
/-- a write into the excluded domain -/
theorem qR.kD {u e : Nat} {K K' N : rd_M} (h : qR u e K N) (he : e < 10) (hK : ∀ c, c < 37 + 8 * e ∨ 44 + 8 * e < c → K' c = K c) (hs : ∀ w, w < 2 → ∃ s, s ≤ 3 ∧ (K' (39 + 8 * e + 2 * w)).1 1 = nI s) : qR u e K' N := by
  obtain ⟨h0, ⟨t, t1, t2, t3⟩, h2, h3, h4, h5, h6, h7, h8⟩ := h
  refine ⟨h0, ⟨t, t1, by rw [hK 0 (by omega)]; exact t2, t3⟩, fun k hk => by rw [hK 1 (by omega)]; exact h2 k hk, fun r hr => (h3 r hr).cg (Nat.le_refl _) (hK _ (by omega)) (hK _ (by omega)) (hK _ (by omega)) rfl (fun _ _ => rfl) rfl (fun _ _ => rfl), h4.cg (fun c _ _ => hK c (by omega)) rfl (fun _ _ => rfl), h5.cg (fun c _ _ => hK c (by omega)) rfl (fun _ _ => ⟨rfl, rfl, rfl⟩), fun d hd w hw => ?_, h7, fun d hd hne => (h8 d hd hne).cg (fun c _ _ => hK c (by omega)) (fun _ _ _ => ⟨rfl, rfl⟩)⟩
  by_cases e1 : d = e
  · rw [e1]; exact hs w hw
  · rw [hK _ (by omega)]; exact h6 d hd w hw
theorem qR.kw {u e c j : Nat} {v : Int32} {K N : rd_M} (h : qR u e K N) (he : e < 10) (h1 : 37 + 8 * e ≤ c) (h2 : c ≤ 44 + 8 * e) (hs : (c = 39 + 8 * e ∨ c = 41 + 8 * e) → j = 1 → ∃ s, s ≤ 3 ∧ v = nI s) : qR u e (rd_iU K c j v) N := by
  refine h.kD he (fun c' hc => me_ic (by omega)) (fun w hw => ?_)
  by_cases e1 : 39 + 8 * e + 2 * w = c ∧ 1 = j
  · obtain ⟨s, s1, s2⟩ := hs (by omega) e1.2.symm
    exact ⟨s, s1, by rw [me_ii e1.1 e1.2]; exact s2⟩
  · rw [me_in e1]
    exact h.2.2.2.2.2.2.1 e he w hw
theorem qR.kd {u e c j : Nat} {v : UInt64} {K N : rd_M} (h : qR u e K N) (he : e < 10) (h1 : 37 + 8 * e ≤ c) (h2 : c ≤ 44 + 8 * e) : qR u e (rd_dU K c j v) N := by
  refine h.kD he (fun c' hc => me_dc (by omega)) (fun w hw => ?_)
  rw [me_di]
  exact h.2.2.2.2.2.2.1 e he w hw
theorem qR.nD {u e : Nat} {K N N' : rd_M} (h : qR u e K N) (hN : ∀ c j, ¬ qO e c j → ¬ (c = 0 ∧ j = 0) → (N' c).1 j = (N c).1 j ∧ (N' c).2.1 j = (N c).2.1 j) (hs : qY N') : qR u e K N' := by
  obtain ⟨h0, ⟨t, t1, t2, t3⟩, h2, h3, h4, h5, h6, h7, h8⟩ := h
  have hq : ∀ c j, c < 10 → ¬ qO e c j := fun c j hc z => by unfold qO at z; omega
  refine ⟨h0, ⟨t, t1, t2, by rw [(hN 0 1 (hq _ _ (by omega)) (by omega)).1]; exact t3⟩, fun k hk => by rw [(hN 1 k (hq _ _ (by omega)) (by omega)).2]; exact h2 k hk, fun r hr => (h3 r hr).cg (Nat.le_refl _) rfl rfl rfl (hN 2 r (hq _ _ (by omega)) (by omega)).2 (fun k _ => (hN 3 _ (hq _ _ (by omega)) (by omega)).2) (hN 4 r (hq _ _ (by omega)) (by omega)).1 (fun i _ => (hN 5 _ (hq _ _ (by omega)) (by omega)).1), h4.cg (fun _ _ _ => rfl) (hN 0 7 (hq _ _ (by omega)) (by omega)).1 (fun i _ => (hN 6 _ (hq _ _ (by omega)) (by omega)).1), h5.cg (fun _ _ _ => rfl) (hN 0 9 (hq _ _ (by omega)) (by omega)).1 (fun i _ => ⟨(hN 7 _ (hq _ _ (by omega)) (by omega)).1, (hN 8 _ (hq _ _ (by omega)) (by omega)).1, (hN 9 _ (hq _ _ (by omega)) (by omega)).1⟩), h6, hs, fun d hd hne => (h8 d hd hne).cg (fun _ _ _ => rfl) (fun c j ho => hN c j ?_ ?_)⟩
  · unfold qO at ho ⊢; omega
  · unfold qO at ho; omega
theorem qR.nw {u e c j : Nat} {v : Int32} {K N : rd_M} (h : qR u e K N) (ho : qO e c j) (h19 : c = 19 → ∃ s, s ≤ 3 ∧ v = nI s) (h18 : c = 18 → ∃ m, m < 8 ∧ v = nI m := by (intro z; exact absurd z (by decide))) : qR u e K (rd_iU N c j v) := by
  refine h.nD (fun c' j' h1 _ => ⟨me_in (fun z => h1 (by rw [z.1, z.2]; exact ho)), by rw [me_il]⟩) ⟨fun j' hj => ?_, fun j' hj => ?_⟩
  · by_cases e1 : 19 = c ∧ j' = j
    · obtain ⟨s, s1, s2⟩ := h19 e1.1.symm
      exact ⟨s, s1, by rw [me_ii e1.1 e1.2]; exact s2⟩
    · rw [me_in e1]
      exact h.2.2.2.2.2.2.2.1.1 j' hj
  · by_cases e1 : 18 = c ∧ j' = j
    · obtain ⟨s, s1, s2⟩ := h18 e1.1.symm
      exact ⟨s, s1, by rw [me_ii e1.1 e1.2]; exact s2⟩
    · rw [me_in e1]
      exact h.2.2.2.2.2.2.2.1.2 j' hj
theorem qR.nl {u e j : Nat} {v : Int64} {K N : rd_M} (h : qR u e K N) (ho : qO e 20 j) : qR u e K (rd_lU N 20 j v) := by
  refine h.nD (fun c' j' h1 _ => ⟨by rw [me_li], me_ln (fun z => h1 (by rw [z.1, z.2]; exact ho))⟩) ⟨fun j' hj => by rw [me_li]; exact h.2.2.2.2.2.2.2.1.1 j' hj, fun j' hj => by rw [me_li]; exact h.2.2.2.2.2.2.2.1.2 j' hj⟩
theorem qR.nt {u e : Nat} {v : Int32} {K N : rd_M} (h : qR u e K N) : qR u e K (rd_iU N 0 0 v) := by
  refine h.nD (fun c' j' _ h1 => ⟨me_in h1, by rw [me_il]⟩) ⟨fun j' hj => by rw [me_ic (by omega)]; exact h.2.2.2.2.2.2.2.1.1 j' hj, fun j' hj => by rw [me_ic (by omega)]; exact h.2.2.2.2.2.2.2.1.2 j' hj⟩
/-- a change of an account -/
theorem qR.ac {u u' e r : Nat} {K K' N N' : rd_M} (h : qR u e K N) (hu : u ≤ u') (hu2 : u' ≤ 400000) (hr : r < 4) (hK : ∀ c, c < 3 + 3 * r ∨ 5 + 3 * r < c → K' c = K c) (hN : ∀ c, c < 2 ∨ 5 < c → N' c = N c) (hN2 : ∀ x, x < 4 → x ≠ r → (N' 2).2.1 x = (N 2).2.1 x ∧ (∀ k, k < 4 → (N' 3).2.1 (4 * x + k) = (N 3).2.1 (4 * x + k)) ∧ (N' 4).1 x = (N 4).1 x ∧ ∀ i, i < 12 → (N' 5).1 (12 * x + i) = (N 5).1 (12 * x + i)) (hA : qA u' r K' N') : qR u' e K' N' := by
  obtain ⟨h0, ⟨t, t1, t2, t3⟩, h2, h3, h4, h5, h6, h7, h8⟩ := h
  have e0 := hN 0 (by omega)
  refine ⟨hu2, ⟨t, by omega, by rw [hK 0 (by omega)]; exact t2, by rw [e0]; exact t3⟩, fun k hk => by rw [hK 1 (by omega), hN 1 (by omega)]; exact h2 k hk, fun x hx => ?_, h4.cg (fun c _ _ => hK c (by omega)) (by rw [e0]) (fun i _ => by rw [hN 6 (by omega)]), h5.cg (fun c _ _ => hK c (by omega)) (by rw [e0]) (fun i _ => ⟨by rw [hN 7 (by omega)], by rw [hN 8 (by omega)], by rw [hN 9 (by omega)]⟩), fun d hd w hw => by rw [hK _ (by omega)]; exact h6 d hd w hw, ⟨fun j hj => by rw [hN 19 (by omega)]; exact h7.1 j hj, fun j hj => by rw [hN 18 (by omega)]; exact h7.2 j hj⟩, fun d hd hne => (h8 d hd hne).cg (fun c _ _ => hK c (by omega)) (fun c j ho => by rw [hN c (by unfold qO at ho; omega)]; exact ⟨rfl, rfl⟩)⟩
  by_cases e1 : x = r
  · rw [e1]; exact hA
  · obtain ⟨a, b, c, d⟩ := hN2 x hx e1
    exact (h3 x hx).cg hu (hK _ (by omega)) (hK _ (by omega)) (hK _ (by omega)) a b c d
theorem qR.up {u u' e : Nat} {K N : rd_M} (h : qR u e K N) (hu : u ≤ u') (hu2 : u' ≤ 400000) : qR u' e K N := by
  obtain ⟨h0, ⟨t, t1, t2, t3⟩, h2, h3, h4, h5, h6, h7, h8⟩ := h
  exact ⟨hu2, ⟨t, by omega, t2, t3⟩, h2, fun r hr => (h3 r hr).cg hu rfl rfl rfl rfl (fun _ _ => rfl) rfl (fun _ _ => rfl), h4, h5, h6, h7, h8⟩
/-- a change of the contacts' shelf, of the hosts' -/
theorem qR.co {u e : Nat} {K K' N N' : rd_M} (h : qR u e K N) (hK : ∀ c, c < 16 ∨ 25 < c → K' c = K c) (hN : ∀ c, c ≠ 0 → c ≠ 6 → N' c = N c) (n1 : (N' 0).1 1 = (N 0).1 1) (n9 : (N' 0).1 9 = (N 0).1 9) (hC : qC K' N') : qR u e K' N' := by
  obtain ⟨h0, ⟨t, t1, t2, t3⟩, h2, h3, h4, h5, h6, h7, h8⟩ := h
  refine ⟨h0, ⟨t, t1, by rw [hK 0 (by omega)]; exact t2, by rw [n1]; exact t3⟩, fun k hk => by rw [hK 1 (by omega), hN 1 (by omega) (by omega)]; exact h2 k hk, fun r hr => (h3 r hr).cg (Nat.le_refl _) (hK _ (by omega)) (hK _ (by omega)) (hK _ (by omega)) (by rw [hN 2 (by omega) (by omega)]) (fun k _ => by rw [hN 3 (by omega) (by omega)]) (by rw [hN 4 (by omega) (by omega)]) (fun i _ => by rw [hN 5 (by omega) (by omega)]), hC, h5.cg (fun c _ _ => hK c (by omega)) n9 (fun i _ => ⟨by rw [hN 7 (by omega) (by omega)], by rw [hN 8 (by omega) (by omega)], by rw [hN 9 (by omega) (by omega)]⟩), fun d hd w hw => by rw [hK _ (by omega)]; exact h6 d hd w hw, ⟨fun j hj => by rw [hN 19 (by omega) (by omega)]; exact h7.1 j hj, fun j hj => by rw [hN 18 (by omega) (by omega)]; exact h7.2 j hj⟩, fun d hd hne => (h8 d hd hne).cg (fun c _ _ => hK c (by omega)) (fun c j ho => by rw [hN c (by unfold qO at ho; omega) (by unfold qO at ho; omega)]; exact ⟨rfl, rfl⟩)⟩
theorem qR.ho {u e : Nat} {K K' N N' : rd_M} (h : qR u e K N) (hK : ∀ c, c < 26 ∨ 35 < c → K' c = K c) (hN : ∀ c, c ≠ 0 → c ≠ 7 → c ≠ 8 → c ≠ 9 → N' c = N c) (n1 : (N' 0).1 1 = (N 0).1 1) (n7 : (N' 0).1 7 = (N 0).1 7) (hH : qH K' N') : qR u e K' N' := by
  obtain ⟨h0, ⟨t, t1, t2, t3⟩, h2, h3, h4, h5, h6, h7, h8⟩ := h
  refine ⟨h0, ⟨t, t1, by rw [hK 0 (by omega)]; exact t2, by rw [n1]; exact t3⟩, fun k hk => by rw [hK 1 (by omega), hN 1 (by omega) (by omega) (by omega) (by omega)]; exact h2 k hk, fun r hr => (h3 r hr).cg (Nat.le_refl _) (hK _ (by omega)) (hK _ (by omega)) (hK _ (by omega)) (by rw [hN 2 (by omega) (by omega) (by omega) (by omega)]) (fun k _ => by rw [hN 3 (by omega) (by omega) (by omega) (by omega)]) (by rw [hN 4 (by omega) (by omega) (by omega) (by omega)]) (fun i _ => by rw [hN 5 (by omega) (by omega) (by omega) (by omega)]), h4.cg (fun c _ _ => hK c (by omega)) n7 (fun i _ => by rw [hN 6 (by omega) (by omega) (by omega) (by omega)]), hH, fun d hd w hw => by rw [hK _ (by omega)]; exact h6 d hd w hw, ⟨fun j hj => by rw [hN 19 (by omega) (by omega) (by omega) (by omega)]; exact h7.1 j hj, fun j hj => by rw [hN 18 (by omega) (by omega) (by omega) (by omega)]; exact h7.2 j hj⟩, fun d hd hne => (h8 d hd hne).cg (fun c _ _ => hK c (by omega)) (fun c j ho => by rw [hN c (by unfold qO at ho; omega) (by unfold qO at ho; omega) (by unfold qO at ho; omega) (by unfold qO at ho; omega)]; exact ⟨rfl, rfl⟩)⟩
/-! how a call's two runs end alike -/
def qE (E : String) (c : Int32) : Prop := (E = "java/lang/IllegalArgumentException" ∧ c = 1) ∨ (E = "java/util/NoSuchElementException" ∧ c = 2) ∨ (E = "java/lang/UnsupportedOperationException" ∧ c = 3) ∨ (E = "java/lang/IllegalStateException" ∧ c = 4)
def qS {α : Type} (ρ : α → α → Prop) (u : Nat) (K : rd_M) (x : Option (String ⊕ (α × rd_M))) (y : Option (α × rd_M)) : Prop :=
  ∃ b N', y = some (b, N') ∧ ((∃ E c, x = some (.inl E) ∧ qE E c ∧ (N' 0).1 0 = c ∧ qR u 10 K N') ∨ ∃ a K', x = some (.inr (a, K')) ∧ ρ a b ∧ (N' 0).1 0 = 0 ∧ qR u 10 K' N')
theorem qS_1 {α : Type} {ρ : α → α → Prop} {u : Nat} {K N : rd_M} {b : α} (h : qR u 10 K N) : qS ρ u K (some (.inl "java/lang/IllegalArgumentException")) (some (b, rd_iU N 0 0 1)) := ⟨b, _, rfl, Or.inl ⟨_, _, rfl, Or.inl ⟨rfl, rfl⟩, me_ii rfl rfl, h.nt⟩⟩
theorem qS_2 {α : Type} {ρ : α → α → Prop} {u : Nat} {K N : rd_M} {b : α} (h : qR u 10 K N) : qS ρ u K (some (.inl "java/util/NoSuchElementException")) (some (b, rd_iU N 0 0 2)) := ⟨b, _, rfl, Or.inl ⟨_, _, rfl, Or.inr (Or.inl ⟨rfl, rfl⟩), me_ii rfl rfl, h.nt⟩⟩
theorem qS_3 {α : Type} {ρ : α → α → Prop} {u : Nat} {K N : rd_M} {b : α} (h : qR u 10 K N) : qS ρ u K (some (.inl "java/lang/UnsupportedOperationException")) (some (b, rd_iU N 0 0 3)) := ⟨b, _, rfl, Or.inl ⟨_, _, rfl, Or.inr (Or.inr (Or.inl ⟨rfl, rfl⟩)), me_ii rfl rfl, h.nt⟩⟩
theorem qS_4 {α : Type} {ρ : α → α → Prop} {u : Nat} {K N : rd_M} {b : α} (h : qR u 10 K N) : qS ρ u K (some (.inl "java/lang/IllegalStateException")) (some (b, rd_iU N 0 0 4)) := ⟨b, _, rfl, Or.inl ⟨_, _, rfl, Or.inr (Or.inr (Or.inr ⟨rfl, rfl⟩)), me_ii rfl rfl, h.nt⟩⟩
theorem qS_0 {α : Type} {ρ : α → α → Prop} {u : Nat} {K K' N : rd_M} {a b : α} (hb : ρ a b) (h : qR u 10 K' N) : qS ρ u K (some (.inr (a, K'))) (some (b, rd_iU N 0 0 0)) := ⟨b, _, rfl, Or.inr ⟨a, K', rfl, hb, me_ii rfl rfl, h.nt⟩⟩
/-- a method of the desk that changes nothing -/
def qpure {α : Type} (K : rd_M) (x : Option (String ⊕ α)) : Option (String ⊕ (α × rd_M)) := x.map (fun y => match y with
  | .inl E => .inl E
  | .inr v => .inr (v, K))
