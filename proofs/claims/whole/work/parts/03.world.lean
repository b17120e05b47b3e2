/-! a group of cells as one memory; contracts over it; one row an instruction, one row a call -/
abbrev rd_Ce : Type := (Nat → Int32) × (Nat → Int64) × (Nat → UInt64)
abbrev rd_M : Type := Nat → rd_Ce
/-- how many cells, and what a cell is, by its number and its memory -/
abbrev rd_L : Type := Nat × ((Nat → Nat) → Nat → rd_Ce → va_E)
def rd_ws (L : rd_L) (ad : Nat → Nat) (M : rd_M) : va_W := (List.range L.1).map (fun k => (ad k, L.2 ad k (M k)))
theorem rd_at {L : rd_L} {ad : Nat → Nat} {M : rd_M} {k : Nat} (hk : k < L.1) : (rd_ws L ad M)[k]? = some (ad k, L.2 ad k (M k)) := by
  simp [rd_ws, hk]
theorem rd_ge {L : rd_L} {ad : Nat → Nat} {M : rd_M} {k : Nat} (hk : ¬ k < L.1) : (rd_ws L ad M)[k]? = none := by
  simp [rd_ws]; omega
theorem rd_set {L : rd_L} {ad : Nat → Nat} {M : rd_M} {k : Nat} {x : rd_Ce} {e : va_E} (he : e = L.2 ad k x) : (rd_ws L ad M).set k (ad k, e) = rd_ws L ad (va_up M k x) := by
  subst he
  apply List.ext_getElem?
  intro i
  by_cases hi : i < L.1
  · by_cases hk : i = k
    · subst hk
      rw [List.getElem?_set_self (by simpa [rd_ws] using hi), rd_at hi, va_up_self]
    · rw [List.getElem?_set_ne (Ne.symm hk), rd_at hi, rd_at hi, va_up_ne _ _ hk]
  · rw [rd_ge hi]
    have : ¬ i < ((rd_ws L ad M).set k (ad k, L.2 ad k x)).length := by simpa [rd_ws] using hi
    exact List.getElem?_eq_none (Nat.not_lt.mp this)
/-- the addresses are apart -/
def rd_J (L : rd_L) (ad : Nat → Nat) : Prop := ∀ i j, i < L.1 → j < L.1 → ad i = ad j → i = j
/-- the cells themselves, and all that come from sz on -/
def rd_A (L : rd_L) (ad : Nat → Nat) (sz : Nat) : Nat → Prop := fun q => (∃ k, k < L.1 ∧ ad k = q) ∨ sz ≤ q
theorem rd_D {L : rd_L} {ad : Nat → Nat} (hJ : rd_J L ad) {A : Nat → Prop} (hA : ∀ k, k < L.1 → A (ad k)) (M : rd_M) : va_D A (rd_ws L ad M) := by
  have key : ∀ (k : Nat) (q : Nat × va_E), (rd_ws L ad M)[k]? = some q → k < L.1 ∧ q.1 = ad k := by
    intro k q h
    by_cases hk : k < L.1
    · rw [rd_at hk] at h
      cases h
      exact ⟨hk, rfl⟩
    · rw [rd_ge hk] at h
      cases h
  refine ⟨fun i j x y hi hj hxy => ?_, fun k q hk => ?_⟩
  · obtain ⟨h1, h2⟩ := key i x hi
    obtain ⟨h3, h4⟩ := key j y hj
    exact hJ i j h1 h3 (by rw [← h2, ← h4]; exact hxy)
  · obtain ⟨h1, h2⟩ := key k q hk
    rw [h2]
    exact hA k h1
/-- the world in a body: the cells, and what has been written since H0 -/
def rd_W (D : va_G) (cl : List vw_C) (L : rd_L) (ad : Nat → Nat) (A : Nat → Prop) (H0 : Heap) (M : rd_M) (H : Heap) (locs : List Loc) : Prop := va_P D cl (rd_ws L ad M) H ∧ va_S A H0 H locs
/-- what stays through a body -/
def rd_C (p : Program) (c : Code) (cc : ByteArray) (nL : Nat) (s : State) (m : MethodId) (args : Array Value) (own : String) (TT : List Cond) (D : va_G) (cl : List vw_C) (ty : List (ClassId × FieldType)) (L : rd_L) (ad : Nat → Nat) (A : Nat → Prop) : Prop :=
  CallFix p m c cc nL s args TT own ∧ va_K D cl ty s ∧ rd_J L ad ∧ (∀ k, k < L.1 → A (ad k)) ∧ ∀ q, s.heap.size ≤ q → A q
def rd_iU (M : rd_M) (c j : Nat) (v : Int32) : rd_M := va_up M c (va_up (M c).1 j v, (M c).2)
def rd_lU (M : rd_M) (c j : Nat) (v : Int64) : rd_M := va_up M c ((M c).1, va_up (M c).2.1 j v, (M c).2.2)
def rd_dU (M : rd_M) (c j : Nat) (v : UInt64) : rd_M := va_up M c ((M c).1, (M c).2.1, va_up (M c).2.2 j v)
abbrev rd_in (x : Int32) (n : Nat) : Prop := ¬ (x < 0 ∨ n ≤ x.toNatClampNeg)
abbrev rd_nn (r : UInt64) : Prop := r &&& 0x7fffffffffffffff ≤ 0x7ff0000000000000
theorem rd_lt {x : Int32} {n : Nat} (h : rd_in x n) : x.toNatClampNeg < n := Nat.not_le.mp fun q => h (Or.inr q)
/-! the words of the functions that the code is turned into -/
def rd_k {α β : Type} (x : α) (f : α → β) : β := f x
def rd_b {α β : Type} (x : Option (String ⊕ α)) (f : α → Option (String ⊕ β)) : Option (String ⊕ β) := match x with
  | none => none
  | some (.inl E) => some (.inl E)
  | some (.inr v) => f v
def rd_it {α : Type} (z : α) (g : α → α) : Nat → α
  | 0 => z
  | n + 1 => g (rd_it z g n)
theorem rd_it_s {α : Type} (z : α) (g : α → α) (n : Nat) : rd_it z g (n + 1) = g (rd_it z g n) := rfl
theorem rd_nf {α : Type} {o : α} (h : (none : Option α) = some o) : False := by cases h
theorem rd_t {α : Type} {c : Prop} [Decidable c] {a b o : α} (h : (if c then a else b) = o) (hc : c) : a = o := by rw [if_pos hc] at h; exact h
theorem rd_f {α : Type} {c : Prop} [Decidable c] {a b o : α} (h : (if c then a else b) = o) (hc : ¬ c) : b = o := by rw [if_neg hc] at h; exact h
theorem rd_g {α : Type} {c : Prop} [Decidable c] {a : Option α} {o : α} (h : (if c then a else none) = some o) : c ∧ a = some o := by
  by_cases hc : c
  · rw [if_pos hc] at h; exact ⟨hc, h⟩
  · rw [if_neg hc] at h; cases h
theorem rd_k_el {α β : Type} {x : α} {f : α → β} {o : β} (h : rd_k x f = o) : ∃ y, y = x ∧ f y = o := ⟨x, rfl, h⟩
theorem rd_bind {α β : Type} {x : Option α} {f : α → Option β} {o : β} (h : x.bind f = some o) : ∃ r, x = some r ∧ f r = some o := by
  cases x with
  | none => cases h
  | some r => exact ⟨r, rfl, h⟩
theorem rd_b_run {α β : Type} {x : Option (String ⊕ α)} {f : α → Option (String ⊕ β)} {o : String ⊕ β} (h : rd_b x f = some o) : ∃ oc, x = some oc ∧ (∀ E, oc = .inl E → o = .inl E) ∧ ∀ v, oc = .inr v → f v = some o := by
  match x, h with
  | none, h => cases h
  | some (.inl E), h => exact ⟨_, rfl, fun E' e => (by cases e; cases h; rfl), fun v e => (by cases e)⟩
  | some (.inr v), h => exact ⟨_, rfl, fun E' e => (by cases e), fun v' e => (by cases e; exact h)⟩
section RD
variable {p : Program} {l : Launch} {e : Env} {R : Room} {s : State} {m : MethodId} {args : Array Value} {below : List Frame} {meth : Method} {c : Code} {H : Heap} {locs : List Loc} {cells slots : Nat} {Q : State → Prop}
variable {cc : ByteArray} {nL : Nat} {own : String} {TT : List Cond} {D : va_G} {cl : List vw_C} {ty : List (ClassId × FieldType)} {L : rd_L} {ad : Nat → Nat} {A : Nat → Prop} {M : rd_M} {pc : Nat} {ls : Array Slot} {rest : List Value}
theorem rd_get (C9 : rd_C p c cc nL s m args own TT D cl ty L ad A) (hW : rd_W D cl L ad A s.heap M H locs) {k : Nat} (hk : k < L.1) {ci : Nat} {fs : List Value} (he : L.2 ad k (M k) = .inr (ci, fs)) {C : String} {T : u_T} {N : Nat} (hc : cl[ci]? = some (C, T, N)) (hin : ∀ w ∈ u_ws C T N, w ∈ TT) (j : Nat) (hj : j < N) {v : Value} (hv : fs[j]? = some v) {index : Nat} (hl : Cond.fieldLink own index (T j).1 (T j).2.1 (T j).2.2.1 ∈ TT) (hdg : decode cc pc = .ok (.getfield index, 3))
    (kk : W p l e R s m args below meth c H locs cells slots Q (F0 m (pc + 3) ls (v :: rest))) : W p l e R s m args below meth c H locs cells slots Q (F0 m pc ls (.ref (ad k) :: rest)) := by
  obtain ⟨⟨hx, hb, hml, hown, hts⟩, hK, -, -, -⟩ := C9
  exact va_get hx hb hts hin hown hK hW.1 k (by rw [rd_at hk, he]) hc j hj (hts _ hl) (fun _ h => h) hv hdg kk
theorem rd_put (C9 : rd_C p c cc nL s m args own TT D cl ty L ad A) (hW : rd_W D cl L ad A s.heap M H locs) {k : Nat} (hk : k < L.1) {ci : Nat} {fs : List Value} (he : L.2 ad k (M k) = .inr (ci, fs)) {C : String} {T : u_T} {N : Nat} (hc : cl[ci]? = some (C, T, N)) (hin : ∀ w ∈ u_ws C T N, w ∈ TT) (t0 : Nat → FieldType) (ht0 : ∀ k, k < N → parseFieldDescriptor (T k).2.2.1 = some (t0 k)) (hnm : ∀ a, a < N → ∀ b, b < N → a ≠ b → (T a).2.1 ≠ (T b).2.1) (j : Nat) (hj : j < N) {index : Nat} (hl : Cond.fieldLink own index (T j).1 (T j).2.1 (T j).2.2.1 ∈ TT) (hfin : (T j).2.2.2 = false) {t : FieldType} {v : Value} (hd : parseFieldDescriptor (T j).2.2.1 = some t) (hn : narrow t v = v) (hfit : fits t v = true) (hlen : j < fs.length) {x : rd_Ce} (hx2 : (.inr (ci, fs.set j v) : va_E) = L.2 ad k x) (hdg : decode cc pc = .ok (.putfield index, 3))
    (kk : ∀ (H1 : Heap) (locs1 : List Loc), rd_W D cl L ad A s.heap (va_up M k x) H1 locs1 → W p l e R s m args below meth c H1 locs1 cells slots Q (F0 m (pc + 3) ls rest)) : W p l e R s m args below meth c H locs cells slots Q (F0 m pc ls (v :: .ref (ad k) :: rest)) := by
  obtain ⟨⟨hx, hb, hml, hown, hts⟩, hK, hJ, hA, -⟩ := C9
  refine va_put hx hb hts hin t0 ht0 hnm hown hK hW.1 (rd_D hJ hA M) hW.2 k (by rw [rd_at hk, he]) hc j hj (hts _ hl) (fun _ h => h) hfin hd hn hfit hlen hdg (fun H1 locs1 h1 h2 h3 => kk H1 locs1 ⟨?_, h3⟩)
  rw [rd_set hx2] at h1
  exact h1
theorem rd_iald (C9 : rd_C p c cc nL s m args own TT D cl ty L ad A) (hW : rd_W D cl L ad A s.heap M H locs) {k : Nat} (hk : k < L.1) {cA : ClassId} {n : Nat} {f : Nat → Int32} (he : L.2 ad k (M k) = .inl (cA, n, .inl f)) {t0 : Nat} (ht : ty[t0]? = some (cA, .int)) {j9 : Int32} {i : Nat} (hxi : j9.toNatClampNeg = i) (hi : vp_in j9 n) (hdg : decode cc pc = .ok (.iaload, 1))
    (kk : W p l e R s m args below meth c H locs cells slots Q (F0 m (pc + 1) ls (.int (f i) :: rest))) : W p l e R s m args below meth c H locs cells slots Q (F0 m pc ls (.int j9 :: .ref (ad k) :: rest)) := by
  obtain ⟨⟨hx, hb, hml, hown, hts⟩, hK, -, -, -⟩ := C9
  exact va_iald hx hb hK hW.1 k t0 (by rw [rd_at hk, he]) ht hi hdg (by rw [hxi]; exact kk)
theorem rd_lald (C9 : rd_C p c cc nL s m args own TT D cl ty L ad A) (hW : rd_W D cl L ad A s.heap M H locs) {k : Nat} (hk : k < L.1) {cA : ClassId} {n : Nat} {f : Nat → Int64} (he : L.2 ad k (M k) = .inl (cA, n, .inr (.inl f))) {t0 : Nat} (ht : ty[t0]? = some (cA, .long)) {j9 : Int32} {i : Nat} (hxi : j9.toNatClampNeg = i) (hi : vp_in j9 n) (hdg : decode cc pc = .ok (.laload, 1))
    (kk : W p l e R s m args below meth c H locs cells slots Q (F0 m (pc + 1) ls (.long (f i) :: rest))) : W p l e R s m args below meth c H locs cells slots Q (F0 m pc ls (.int j9 :: .ref (ad k) :: rest)) := by
  obtain ⟨⟨hx, hb, hml, hown, hts⟩, hK, -, -, -⟩ := C9
  exact va_lald hx hb hK hW.1 k t0 (by rw [rd_at hk, he]) ht hi hdg (by rw [hxi]; exact kk)
theorem rd_dald (C9 : rd_C p c cc nL s m args own TT D cl ty L ad A) (hW : rd_W D cl L ad A s.heap M H locs) {k : Nat} (hk : k < L.1) {cA : ClassId} {n : Nat} {f : Nat → UInt64} (he : L.2 ad k (M k) = .inl (cA, n, .inr (.inr (.inr (.inl f))))) {t0 : Nat} (ht : ty[t0]? = some (cA, .double)) {j9 : Int32} {i : Nat} (hxi : j9.toNatClampNeg = i) (hi : vp_in j9 n) (hdg : decode cc pc = .ok (.daload, 1))
    (kk : W p l e R s m args below meth c H locs cells slots Q (F0 m (pc + 1) ls (.double (f i) :: rest))) : W p l e R s m args below meth c H locs cells slots Q (F0 m pc ls (.int j9 :: .ref (ad k) :: rest)) := by
  obtain ⟨⟨hx, hb, hml, hown, hts⟩, hK, -, -, -⟩ := C9
  exact va_dald hx hb hK hW.1 k t0 (by rw [rd_at hk, he]) ht hi hdg (by rw [hxi]; exact kk)
theorem rd_aald (C9 : rd_C p c cc nL s m args own TT D cl ty L ad A) (hW : rd_W D cl L ad A s.heap M H locs) {k : Nat} (hk : k < L.1) {cA : ClassId} {C : String} {n : Nat} {f : Nat → Option Nat} (he : L.2 ad k (M k) = .inl (cA, n, .inr (.inr (.inr (.inr f))))) {t0 : Nat} (ht : ty[t0]? = some (cA, .object C)) {j9 : Int32} {i : Nat} (hxi : j9.toNatClampNeg = i) (hi : vp_in j9 n) {a : Nat} (ha : f i = some a) (hdg : decode cc pc = .ok (.aaload, 1))
    (kk : W p l e R s m args below meth c H locs cells slots Q (F0 m (pc + 1) ls (.ref a :: rest))) : W p l e R s m args below meth c H locs cells slots Q (F0 m pc ls (.int j9 :: .ref (ad k) :: rest)) := by
  obtain ⟨⟨hx, hb, hml, hown, hts⟩, hK, -, -, -⟩ := C9
  exact va_aldq hx hb hK hW.1 k t0 (by rw [rd_at hk, he]) ht hi hdg (by rw [hxi, ha]; exact kk)
theorem rd_iast (C9 : rd_C p c cc nL s m args own TT D cl ty L ad A) (hW : rd_W D cl L ad A s.heap M H locs) {k : Nat} (hk : k < L.1) {cA : ClassId} {n : Nat} {f : Nat → Int32} (he : L.2 ad k (M k) = .inl (cA, n, .inl f)) {t0 : Nat} (ht : ty[t0]? = some (cA, .int)) {j9 : Int32} {i : Nat} (hxi : j9.toNatClampNeg = i) (hi : vp_in j9 n) {v : Int32} {x : rd_Ce} (hx2 : (.inl (cA, n, .inl (upd f i v)) : va_E) = L.2 ad k x) (hdg : decode cc pc = .ok (.iastore, 1))
    (kk : ∀ (H1 : Heap) (locs1 : List Loc), rd_W D cl L ad A s.heap (va_up M k x) H1 locs1 → W p l e R s m args below meth c H1 locs1 cells slots Q (F0 m (pc + 1) ls rest)) : W p l e R s m args below meth c H locs cells slots Q (F0 m pc ls (.int v :: .int j9 :: .ref (ad k) :: rest)) := by
  obtain ⟨⟨hx, hb, hml, hown, hts⟩, hK, hJ, hA, -⟩ := C9
  refine va_iast hx hb hK hW.1 (rd_D hJ hA M) hW.2 k t0 (by rw [rd_at hk, he]) ht hi hdg (fun H1 locs1 h1 h2 h3 => kk H1 locs1 ⟨?_, h3⟩)
  rw [hxi, rd_set hx2] at h1
  exact h1
theorem rd_last (C9 : rd_C p c cc nL s m args own TT D cl ty L ad A) (hW : rd_W D cl L ad A s.heap M H locs) {k : Nat} (hk : k < L.1) {cA : ClassId} {n : Nat} {f : Nat → Int64} (he : L.2 ad k (M k) = .inl (cA, n, .inr (.inl f))) {t0 : Nat} (ht : ty[t0]? = some (cA, .long)) {j9 : Int32} {i : Nat} (hxi : j9.toNatClampNeg = i) (hi : vp_in j9 n) {v : Int64} {x : rd_Ce} (hx2 : (.inl (cA, n, .inr (.inl (vp_updL f i v))) : va_E) = L.2 ad k x) (hdg : decode cc pc = .ok (.lastore, 1))
    (kk : ∀ (H1 : Heap) (locs1 : List Loc), rd_W D cl L ad A s.heap (va_up M k x) H1 locs1 → W p l e R s m args below meth c H1 locs1 cells slots Q (F0 m (pc + 1) ls rest)) : W p l e R s m args below meth c H locs cells slots Q (F0 m pc ls (.long v :: .int j9 :: .ref (ad k) :: rest)) := by
  obtain ⟨⟨hx, hb, hml, hown, hts⟩, hK, hJ, hA, -⟩ := C9
  refine va_last hx hb hK hW.1 (rd_D hJ hA M) hW.2 k t0 (by rw [rd_at hk, he]) ht hi hdg (fun H1 locs1 h1 h2 h3 => kk H1 locs1 ⟨?_, h3⟩)
  rw [hxi, rd_set hx2] at h1
  exact h1
theorem rd_dast (C9 : rd_C p c cc nL s m args own TT D cl ty L ad A) (hW : rd_W D cl L ad A s.heap M H locs) {k : Nat} (hk : k < L.1) {cA : ClassId} {n : Nat} {f : Nat → UInt64} (he : L.2 ad k (M k) = .inl (cA, n, .inr (.inr (.inr (.inl f))))) {t0 : Nat} (ht : ty[t0]? = some (cA, .double)) {j9 : Int32} {i : Nat} (hxi : j9.toNatClampNeg = i) (hi : vp_in j9 n) {v : UInt64} {x : rd_Ce} (hx2 : (.inl (cA, n, .inr (.inr (.inr (.inl (vf_upd f i v))))) : va_E) = L.2 ad k x) (hdg : decode cc pc = .ok (.dastore, 1))
    (kk : ∀ (H1 : Heap) (locs1 : List Loc), rd_W D cl L ad A s.heap (va_up M k x) H1 locs1 → W p l e R s m args below meth c H1 locs1 cells slots Q (F0 m (pc + 1) ls rest)) : W p l e R s m args below meth c H locs cells slots Q (F0 m pc ls (.double v :: .int j9 :: .ref (ad k) :: rest)) := by
  obtain ⟨⟨hx, hb, hml, hown, hts⟩, hK, hJ, hA, -⟩ := C9
  refine va_dast hx hb hK hW.1 (rd_D hJ hA M) hW.2 k t0 (by rw [rd_at hk, he]) ht hi hdg (fun H1 locs1 h1 h2 h3 => kk H1 locs1 ⟨?_, h3⟩)
  rw [hxi, rd_set hx2] at h1
  exact h1
theorem rd_ldc (C9 : rd_C p c cc nL s m args own TT D cl ty L ad A) {index : Nat} {v : Int32} (hl : Cond.constant own index v ∈ TT) (hdg : decode cc pc = .ok (.ldc index, 2)) (kk : W p l e R s m args below meth c H locs cells slots Q (F0 m (pc + 2) ls (.int v :: rest))) : W p l e R s m args below meth c H locs cells slots Q (F0 m pc ls rest) := lv_ldc C9.1.1 C9.1.2.1 C9.1.2.2.2.1 (C9.1.2.2.2.2 _ hl) hdg kk
theorem rd_ldcJ (C9 : rd_C p c cc nL s m args own TT D cl ty L ad A) {index : Nat} {v : Int64} (hl : Cond.constantLong own index v ∈ TT) (hdg : decode cc pc = .ok (.ldc2_w index, 3)) (kk : W p l e R s m args below meth c H locs cells slots Q (F0 m (pc + 3) ls (.long v :: rest))) : W p l e R s m args below meth c H locs cells slots Q (F0 m pc ls rest) := lv_ldc2 C9.1.1 C9.1.2.1 C9.1.2.2.2.1 (C9.1.2.2.2.2 _ hl) hdg kk
theorem rd_ldcD (C9 : rd_C p c cc nL s m args own TT D cl ty L ad A) {index : Nat} {v : UInt64} (hl : Cond.constantDouble own index v ∈ TT) (hdg : decode cc pc = .ok (.ldc2_w index, 3)) (kk : W p l e R s m args below meth c H locs cells slots Q (F0 m (pc + 3) ls (.double v :: rest))) : W p l e R s m args below meth c H locs cells slots Q (F0 m pc ls rest) := lv_ldc2d C9.1.1 C9.1.2.1 C9.1.2.2.2.1 (C9.1.2.2.2.2 _ hl) hdg kk
/-- two arms that meet with a number on the stack -/
theorem rd_sel {g0 : JFrame} {x : Int32} (z : Int32) (g : Int32 → JFrame) (hz : z = x) (arms : W p l e R s m args below meth c H locs cells slots Q (g x) → W p l e R s m args below meth c H locs cells slots Q g0) (k : W p l e R s m args below meth c H locs cells slots Q (g z)) : W p l e R s m args below meth c H locs cells slots Q g0 := arms (hz ▸ k)
theorem rd_selt {g : Int32 → JFrame} {C : Prop} [Decidable C] {a b : Int32} (h : W p l e R s m args below meth c H locs cells slots Q (g (if C then a else b))) (hc : C) : W p l e R s m args below meth c H locs cells slots Q (g a) := by
  rw [if_pos hc] at h; exact h
theorem rd_self {g : Int32 → JFrame} {C : Prop} [Decidable C] {a b : Int32} (h : W p l e R s m args below meth c H locs cells slots Q (g (if C then a else b))) (hc : ¬ C) : W p l e R s m args below meth c H locs cells slots Q (g b) := by
  rw [if_neg hc] at h; exact h
end RD
