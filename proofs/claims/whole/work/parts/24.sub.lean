/-! small methods -/
theorem ri {n N : Nat} (h : n < N) (hN : N < 2 ^ 31) : rd_in (nI n) N := vp_in_nI h hN
theorem nl4 {n : Nat} (h : n < 4) : ¬ (4 : Int32) ≤ nI n := nI_ge (b := 4) h (by decide)
theorem nl5 {n : Nat} (h : n < 5) : ¬ (5 : Int32) ≤ nI n := nI_ge (b := 5) h (by decide)
theorem nl8 {n : Nat} (h : n < 8) : ¬ (8 : Int32) ≤ nI n := nI_ge (b := 8) h (by decide)
theorem nl10 {n : Nat} (h : n < 10) : ¬ (10 : Int32) ≤ nI n := nI_ge (b := 10) h (by decide)
theorem kdt {K : rd_M} {d : Nat} (hd : d < 10) : f_K_domainThere K (nI d) = if (K (37 + 8 * d)).1 3 = 0 then some (.inl "java/util/NoSuchElementException") else some (.inr d) := by
  unfold f_K_domainThere
  rw [if_pos (ri hd (by decide)), if_pos (ri hd (by decide)), ev_c (by omega)]
theorem ndm {N : rd_M} {d : Nat} (hd : d < 10) : f_N_noDomain N (nI d) = some (if 0 ≤ (N 10).1 d then 0 else 1) := by
  unfold f_N_noDomain
  rw [if_pos (ri hd (by decide)), fe_k, ev_c (by omega)]
theorem bar {N : rd_M} {d : Nat} {p lk st : Int32} (hd : d < 10) : f_N_barred N p (nI d) lk st = some (if 0 ≤ (N 10).1 d then (if (N 10).1 d = p then (if (N 13).1 d &&& lk = 0 then (if (N 14).1 d = st then 0 else 3) else 3) else 3) else 2) := by
  unfold f_N_barred
  rw [ndm hd, fe_bind]
  simp only [if_pos (ri hd (show 10 < 2 ^ 31 by decide)), ev_c (show d < 2 ^ 31 by omega), fe_k]
  by_cases h1 : 0 ≤ (N 10).1 d
  · simp only [h1, if_true]
    by_cases h2 : (N 10).1 d = p
    · simp only [h2, if_true]
      by_cases h3 : (N 13).1 d &&& lk = 0
      · simp only [h3, if_true]
      · simp only [h3, if_false]
    · simp only [h2, if_false]
  · simp only [h1, if_false]
    rw [if_neg (by decide)]
theorem rg01 {p : Int32} (h : 0 ≤ p ∧ p ≤ 1) : p = 0 ∨ p = 1 := by
  obtain ⟨r, hr, rfl⟩ := rg_of (n := 1) (by decide) h
  rcases (show r = 0 ∨ r = 1 by omega) with rfl | rfl
  · exact Or.inl rfl
  · exact Or.inr rfl
/-- what is there of the contacts -/
theorem thC {K N : rd_M} (h : qC K N) (p : Int32) : (f_N_noThing N 0 p = some 1 ∧ f_K_thingThere K 0 p = some (.inl "java/util/NoSuchElementException") ∧ f_S_has K 0 p = some 0) ∨ ∃ n, n < 8 ∧ p = nI n ∧ f_N_noThing N 0 p = some 0 ∧ f_K_thingThere K 0 p = some (.inr (0, n)) ∧ f_S_has K 0 p = some 1 ∧ (∃ c, c ≤ 8 ∧ n < c ∧ (K (16 + 10 * 0)).1 1 = nI c ∧ (N 0).1 7 = nI c) ∧ (K (18 + 10 * 0 + n)).1 0 = 1 ∧ (K (18 + 10 * 0 + n)).1 1 = (N 6).1 n ∧ ∃ m, m < 4 ∧ (N 6).1 n = nI m := by
  obtain ⟨c, c1, c2, c3, c4⟩ := h
  have hK0 : f_S_has K 0 p = some 0 → f_K_thingThere K 0 p = some (.inl "java/util/NoSuchElementException") := fun e => by
    unfold f_K_thingThere
    rw [if_pos (by decide)]
    show (f_S_has K 0 p).bind _ = _
    rw [e, fe_bind, if_pos rfl]
  by_cases h0 : p < 0
  · have h1 : ¬ 0 ≤ p := fun z => by
      have e1 := Int32.le_iff_toInt_le.mp z
      have e2 := Int32.lt_iff_toInt_lt.mp h0
      omega
    have e : f_S_has K 0 p = some 0 := by unfold f_S_has; rw [if_pos h0]
    exact Or.inl ⟨by unfold f_N_noThing; rw [if_neg h1], hK0 e, e⟩
  · obtain ⟨n, hn, rfl⟩ := nI_of h0
    by_cases h2 : c ≤ n
    · have e : f_S_has K 0 (nI n) = some 0 := by unfold f_S_has; rw [if_neg h0, c2, if_pos (nI_le h2 hn)]
      refine Or.inl ⟨?_, hK0 e, e⟩
      unfold f_N_noThing
      rw [if_pos (nI_pos' hn), if_pos rfl, c3, if_pos (nI_le h2 hn)]
    · have h8 : n < 8 := by omega
      have hlt : ¬ nI c ≤ nI n := nI_ge (by omega) (by omega)
      have eN : f_N_noThing N 0 (nI n) = some (if 0 ≤ (N 6).1 n then 0 else 1) := by
        unfold f_N_noThing
        rw [if_pos (nI_pos' hn), if_pos rfl, c3, if_neg hlt, if_pos (ri h8 (by decide)), fe_k, ev_c hn]
      have eK : f_S_has K 0 (nI n) = some (if (K (18 + 10 * 0 + n)).1 0 = 0 then 0 else 1) := by
        unfold f_S_has
        rw [if_neg h0, c2, if_neg hlt, if_pos (ri h8 (by decide)), fe_k, ev_c hn]
      rcases c4 n (by omega) with ⟨a, b⟩ | ⟨a, b, m, m1, m2⟩
      · have e : f_S_has K 0 (nI n) = some 0 := by rw [eK, if_pos a]
        exact Or.inl ⟨by rw [eN, b]; rfl, hK0 e, e⟩
      · have e : f_S_has K 0 (nI n) = some 1 := by rw [eK, a]; rfl
        refine Or.inr ⟨n, h8, rfl, by rw [eN, m2, if_pos (nI_pos' (by omega))], ?_, e, ⟨c, c1, by omega, c2, c3⟩, a, b, m, m1, m2⟩
        unfold f_K_thingThere
        rw [if_pos (by decide)]
        show (f_S_has K 0 (nI n)).bind _ = _
        rw [e, fe_bind, if_neg (by decide), if_pos (by decide), if_pos (ri h8 (by decide)), ev_c hn]
        rfl
theorem thH {K N : rd_M} (h : qH K N) (p : Int32) : (f_N_noThing N 1 p = some 1 ∧ f_K_thingThere K 1 p = some (.inl "java/util/NoSuchElementException") ∧ f_S_has K 1 p = some 0) ∨ ∃ n, n < 8 ∧ p = nI n ∧ f_N_noThing N 1 p = some 0 ∧ f_K_thingThere K 1 p = some (.inr (1, n)) ∧ f_S_has K 1 p = some 1 ∧ (∃ c, c ≤ 8 ∧ n < c ∧ (K (16 + 10 * 1)).1 1 = nI c ∧ (N 0).1 9 = nI c) ∧ (K (18 + 10 * 1 + n)).1 0 = 1 ∧ (K (18 + 10 * 1 + n)).1 1 = (N 7).1 n ∧ (K (18 + 10 * 1 + n)).1 2 = (N 9).1 n ∧ (K (18 + 10 * 1 + n)).1 3 = (N 8).1 n ∧ ∃ m, m < 4 ∧ (N 7).1 n = nI m := by
  obtain ⟨c, c1, c2, c3, c4⟩ := h
  have hK0 : f_S_has K 1 p = some 0 → f_K_thingThere K 1 p = some (.inl "java/util/NoSuchElementException") := fun e => by
    unfold f_K_thingThere
    rw [if_pos (by decide)]
    show (f_S_has K 1 p).bind _ = _
    rw [e, fe_bind, if_pos rfl]
  by_cases h0 : p < 0
  · have h1 : ¬ 0 ≤ p := fun z => by
      have e1 := Int32.le_iff_toInt_le.mp z
      have e2 := Int32.lt_iff_toInt_lt.mp h0
      omega
    have e : f_S_has K 1 p = some 0 := by unfold f_S_has; rw [if_pos h0]
    exact Or.inl ⟨by unfold f_N_noThing; rw [if_neg h1], hK0 e, e⟩
  · obtain ⟨n, hn, rfl⟩ := nI_of h0
    by_cases h2 : c ≤ n
    · have e : f_S_has K 1 (nI n) = some 0 := by unfold f_S_has; rw [if_neg h0, c2, if_pos (nI_le h2 hn)]
      refine Or.inl ⟨?_, hK0 e, e⟩
      unfold f_N_noThing
      rw [if_pos (nI_pos' hn), if_neg (by decide), c3, if_pos (nI_le h2 hn)]
    · have h8 : n < 8 := by omega
      have hlt : ¬ nI c ≤ nI n := nI_ge (by omega) (by omega)
      have eN : f_N_noThing N 1 (nI n) = some (if 0 ≤ (N 7).1 n then 0 else 1) := by
        unfold f_N_noThing
        rw [if_pos (nI_pos' hn), if_neg (by decide), c3, if_neg hlt, if_pos (ri h8 (by decide)), fe_k, ev_c hn]
      have eK : f_S_has K 1 (nI n) = some (if (K (18 + 10 * 1 + n)).1 0 = 0 then 0 else 1) := by
        unfold f_S_has
        rw [if_neg h0, c2, if_neg hlt, if_pos (ri h8 (by decide)), fe_k, ev_c hn]
      obtain ⟨c5, c6⟩ := c4 n (by omega)
      rcases c5 with ⟨a, b⟩ | ⟨a, b, m, m1, m2⟩
      · have e : f_S_has K 1 (nI n) = some 0 := by rw [eK, if_pos a]
        exact Or.inl ⟨by rw [eN, b]; rfl, hK0 e, e⟩
      · have e : f_S_has K 1 (nI n) = some 1 := by rw [eK, a]; rfl
        refine Or.inr ⟨n, h8, rfl, by rw [eN, m2, if_pos (nI_pos' (by omega))], ?_, e, ⟨c, c1, by omega, c2, c3⟩, a, b, (c6 a).1, (c6 a).2, m, m1, m2⟩
        unfold f_K_thingThere
        rw [if_pos (by decide)]
        show (f_S_has K 1 (nI n)).bind _ = _
        rw [e, fe_bind, if_neg (by decide), if_pos (by decide), if_pos (ri h8 (by decide)), ev_c hn]
        rfl
/-- a place in a row of at most three -/
def qpl (s : Nat) (f : Nat → Int32) (x : Int32) : Int32 := if 0 < s ∧ f 0 = x then 0 else if 1 < s ∧ f 1 = x then 1 else if 2 < s ∧ f 2 = x then 2 else -1
theorem qpl_cg {s : Nat} {f g : Nat → Int32} {x : Int32} (h : ∀ i, i < s → f i = g i) : qpl s f x = qpl s g x := by
  unfold qpl
  by_cases h0 : 0 < s
  · rw [h 0 h0]
    by_cases h1 : 1 < s
    · rw [h 1 h1]
      by_cases h2 : 2 < s
      · rw [h 2 h2]
      · simp only [h2, false_and]
    · have h2 : ¬ 2 < s := by omega
      simp only [h1, h2, false_and]
  · have h1 : ¬ 1 < s := by omega
    have h2 : ¬ 2 < s := by omega
    simp only [h0, h1, h2, false_and]
theorem qpl_or {s : Nat} {f : Nat → Int32} {x : Int32} : qpl s f x = -1 ∨ ∃ p, p < s ∧ p < 3 ∧ qpl s f x = nI p := by
  unfold qpl
  split
  · next h => exact Or.inr ⟨0, h.1, by omega, rfl⟩
  · split
    · next h => exact Or.inr ⟨1, h.1, by omega, rfl⟩
    · split
      · next h => exact Or.inr ⟨2, h.1, by omega, rfl⟩
      · exact Or.inl rfl
theorem plK {K : rd_M} {d w s : Nat} (x : Int32) (hs : s ≤ 3) (h : (K (39 + 8 * d + 2 * w)).1 1 = nI s) : f_R_placeOf K d w x = some (qpl s (K (40 + 8 * d + 2 * w)).1 x) := by
  unfold f_R_placeOf
  have st : ∀ (i : Nat) (rec : Int32 → Option Int32), i < 3 → lb_R_placeOf_2 K d w x (fun _ => some (-1)) rec (nI i) = if s ≤ i then some (-1) else if (K (40 + 8 * d + 2 * w)).1 i = x then some (nI i) else rec (nI (i + 1)) := by
    intro i rec hi
    unfold lb_R_placeOf_2
    rw [h, if_pos (ri hi (by decide)), ev_c (by omega), ea1]
    simp only [eLL (show s < 2 ^ 31 by omega) (show i < 2 ^ 31 by omega)]
  have s3 : ∀ (rec : Int32 → Option Int32), lb_R_placeOf_2 K d w x (fun _ => some (-1)) rec (nI 3) = some (-1) := by
    intro rec
    unfold lb_R_placeOf_2
    rw [h, if_pos (nI_le hs (by decide))]
  rw [show (64 : Nat) = 60 + 1 + 1 + 1 + 1 from rfl, show (0 : Int32) = nI 0 from rfl]
  rw [rd_it_s, st 0 _ (by omega), rd_it_s, st 1 _ (by omega), rd_it_s, st 2 _ (by omega), rd_it_s, s3]
  unfold qpl
  rcases (show s = 0 ∨ s = 1 ∨ s = 2 ∨ s = 3 by omega) with rfl | rfl | rfl | rfl <;> simp <;> (repeat' split) <;> first | rfl | (simp_all; done)
theorem plN {N : rd_M} {d w s : Nat} {W : Int32} (x : Int32) (hW : W = nI w) (hd : d < 10) (hw : w < 2) (hs : s ≤ 3) (h : (N 19).1 (2 * d + w) = nI s) : f_N_placeOf N (nI d) W x = some (qpl s (fun i => (N 18).1 (6 * d + 3 * w + i)) x) := by
  subst hW
  unfold f_N_placeOf
  have i2 : (2 * nI d) + nI w = nI (2 * d + w) := by rw [em2, nI_add]
  have i6 : ∀ i, ((6 * nI d) + (3 * nI w)) + nI i = nI (6 * d + 3 * w + i) := fun i => by rw [em6, em3, nI_add, nI_add]
  have st : ∀ (i : Nat) (rec : Int32 → Option Int32), i < 3 → lb_N_placeOf_3 N (nI d) (nI w) x (fun _ => some (-1)) rec (nI i) = if s ≤ i then some (-1) else if (N 18).1 (6 * d + 3 * w + i) = x then some (nI i) else rec (nI (i + 1)) := by
    intro i rec hi
    unfold lb_N_placeOf_3
    rw [i2, i6, if_pos (ri (show 2 * d + w < 20 by omega) (by decide)), if_pos (ri (show 6 * d + 3 * w + i < 60 by omega) (by decide)), ev_c (show 2 * d + w < 2 ^ 31 by omega), ev_c (show 6 * d + 3 * w + i < 2 ^ 31 by omega), h, ea1]
    simp only [eLL (show s < 2 ^ 31 by omega) (show i < 2 ^ 31 by omega)]
  have s3 : ∀ (rec : Int32 → Option Int32), lb_N_placeOf_3 N (nI d) (nI w) x (fun _ => some (-1)) rec (nI 3) = some (-1) := by
    intro rec
    unfold lb_N_placeOf_3
    rw [i2, if_pos (ri (show 2 * d + w < 20 by omega) (by decide)), ev_c (show 2 * d + w < 2 ^ 31 by omega), h, if_pos (nI_le hs (by decide))]
  rw [show (64 : Nat) = 60 + 1 + 1 + 1 + 1 from rfl, show (0 : Int32) = nI 0 from rfl]
  rw [rd_it_s, st 0 _ (by omega), rd_it_s, st 1 _ (by omega), rd_it_s, st 2 _ (by omega), rd_it_s, s3]
  unfold qpl
  rcases (show s = 0 ∨ s = 1 ∨ s = 2 ∨ s = 3 by omega) with rfl | rfl | rfl | rfl <;> simp <;> (repeat' split) <;> first | rfl | (simp_all; done)
/-- both find the same place -/
theorem plB {K N : rd_M} {d w : Nat} {W : Int32} (x : Int32) (hW : W = nI w) (hd : d < 10) (hw : w < 2) (h : qW d w K N) : ∃ (s : Nat) (v : Int32), s ≤ 3 ∧ (K (39 + 8 * d + 2 * w)).1 1 = nI s ∧ (N 19).1 (2 * d + w) = nI s ∧ f_R_placeOf K d w x = some v ∧ f_N_placeOf N (nI d) W x = some v ∧ (v = -1 ∨ ∃ p, p < s ∧ p < 3 ∧ v = nI p) := by
  obtain ⟨s, s1, s2, s3, s4⟩ := h
  refine ⟨s, _, s1, s2, s3, plK x s1 s2, ?_, qpl_or⟩
  rw [plN x hW hd hw s1 s3, qpl_cg s4]
/-- does a domain use it -/
theorem us1 {K N : rd_M} {d w : Nat} {W : Int32} (x : Int32) (hW : W = nI w) (hd : d < 10) (hw : w < 2) (h : qD d K N) : (f_D_uses K d W x = some 0 ∧ ((N 10).1 d < 0 ∨ (¬ (N 10).1 d < 0 ∧ f_N_placeOf N (nI d) W x = some (-1)))) ∨ (f_D_uses K d W x = some 1 ∧ ¬ (N 10).1 d < 0 ∧ ∃ p, p < 3 ∧ f_N_placeOf N (nI d) W x = some (nI p)) := by
  unfold f_D_uses
  rcases h with ⟨a, b⟩ | ⟨a, ⟨o, o1, o2, o3⟩, -, -, -, -, -, -, b7, -⟩
  · exact Or.inl ⟨by rw [if_pos a], Or.inl (by rw [b]; decide)⟩
  · have hn : ¬ (N 10).1 d < 0 := by rw [o3]; exact nI_pos (by omega)
    obtain ⟨s, v, s1, s2, s3, e1, e2, e3⟩ := plB x hW hd hw (b7 w hw)
    have ew : W.toNatClampNeg = w := by rw [hW]; exact ev_c (by omega)
    have ek : (if (K (37 + 8 * d)).1 3 = 0 then some 0 else if rd_in W 2 then (f_R_placeOf K d W.toNatClampNeg x).bind fun r3 => rd_k (if r3 = (-1) then 0 else 1 : Int32) fun z5 => some z5 else none) = some (if v = -1 then 0 else 1) := by
      rw [a, if_neg (by decide), if_pos (by rw [hW]; exact ri hw (by decide)), ew, e1]
      rfl
    rw [ek]
    rcases e3 with rfl | ⟨p, p1, p2, rfl⟩
    · exact Or.inl ⟨rfl, Or.inr ⟨hn, e2⟩⟩
    · refine Or.inr ⟨?_, hn, p, p2, e2⟩
      rw [if_neg]
      intro z
      have := em1 (n := p) (by omega)
      rw [z] at this
      exact absurd rfl (this ▸ not_false)
/-- how many domains use it -/
theorem usB {u : Nat} {K N : rd_M} {w : Nat} {W : Int32} (x : Int32) (hW : W = nI w) (hw : w < 2) (h : qR u 10 K N) : ∃ n, n ≤ 10 ∧ f_K_usesOf K W x = some (nI n) ∧ f_N_users N W x = some (nI n) := by
  unfold f_K_usesOf f_N_users
  obtain ⟨a, b, ⟨n, n1, rfl, rfl⟩, e1, e2⟩ := lp_two (z := fun _ _ => none) (z2 := fun _ _ => none) (lb := lb_K_usesOf_5 K W x (fun _ w5_3 => some w5_3)) (lb2 := lb_N_users_5 N W x (fun _ w5_3 => some w5_3)) (n := 10) (fun i a b => ∃ n, n ≤ i ∧ a = nI n ∧ b = nI n) (fun i hi a b hP => by
    obtain ⟨n, n1, rfl, rfl⟩ := hP
    have hk : ∀ rec, lb_K_usesOf_5 K W x (fun _ w5_3 => some w5_3) rec (nI i) (nI n) = (f_D_uses K i W x).bind fun r3 => if r3 = 0 then rec (nI (i + 1)) (nI n) else rec (nI (i + 1)) (nI (n + 1)) := fun rec => by
      unfold lb_K_usesOf_5
      rw [if_neg (nl10 hi), if_pos (ri hi (by decide)), ev_c (by omega), ea1, ea1]
    have hn : ∀ rec, lb_N_users_5 N W x (fun _ w5_3 => some w5_3) rec (nI i) (nI n) = if (N 10).1 i < 0 then rec (nI (i + 1)) (nI n) else (f_N_placeOf N (nI i) W x).bind fun r4 => if r4 < 0 then rec (nI (i + 1)) (nI n) else rec (nI (i + 1)) (nI (n + 1)) := fun rec => by
      unfold lb_N_users_5
      rw [if_neg (nl10 hi), if_pos (ri hi (by decide)), ev_c (by omega), ea1, ea1]
    rcases us1 x hW hi hw (h.2.2.2.2.2.2.2.2 i hi (by omega)) with ⟨e1, e2⟩ | ⟨e1, e2, p, e3, e4⟩
    · refine ⟨_, _, ⟨n, by omega, rfl, rfl⟩, fun rec => by rw [hk, e1]; rfl, fun rec => ?_⟩
      rw [hn]
      rcases e2 with e2 | ⟨e2, e3⟩
      · rw [if_pos e2]
      · rw [if_neg e2, e3]; rfl
    · refine ⟨_, _, ⟨n + 1, by omega, rfl, rfl⟩, fun rec => by rw [hk, e1]; rfl, fun rec => ?_⟩
      rw [hn, if_neg e2, e4, fe_bind, if_neg (nI_pos (by omega))]) 10 0 64 64 (nI 0) (nI 0) rfl ⟨0, Nat.le_refl _, rfl, rfl⟩ (by omega) (by omega)
  refine ⟨n, n1, e1.trans ?_, e2.trans ?_⟩
  · unfold lb_K_usesOf_5; rw [if_pos (by decide)]
  · unfold lb_N_users_5; rw [if_pos (by decide)]
