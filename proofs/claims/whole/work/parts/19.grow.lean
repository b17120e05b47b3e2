/-! worlds that grow: n cells from the address a on, one after another -/
def gl (a n : Nat) (C : Nat → va_E) : va_W := (List.range n).map (fun k => (a + k, C k))
theorem gl_at {a n : Nat} {C : Nat → va_E} {k : Nat} (hk : k < n) : (gl a n C)[k]? = some (a + k, C k) := by
  simp [gl, hk]
theorem gl_ge {a n : Nat} {C : Nat → va_E} {k : Nat} (hk : ¬ k < n) : (gl a n C)[k]? = none := by
  simp [gl]; omega
theorem gl_set {a n : Nat} {C : Nat → va_E} {k : Nat} {e : va_E} : (gl a n C).set k (a + k, e) = gl a n (va_up C k e) := by
  apply List.ext_getElem?
  intro i
  by_cases hi : i < n
  · by_cases hk : i = k
    · subst hk
      rw [List.getElem?_set_self (by simpa [gl] using hi), gl_at hi, va_up_self]
    · rw [List.getElem?_set_ne (Ne.symm hk), gl_at hi, gl_at hi, va_up_ne _ _ hk]
  · rw [gl_ge hi]
    have : ¬ i < ((gl a n C).set k (a + k, e)).length := by simpa [gl] using hi
    exact List.getElem?_eq_none (Nat.not_lt.mp this)
theorem gl_push {a n : Nat} {C : Nat → va_E} {e : va_E} : gl a n C ++ [(a + n, e)] = gl a (n + 1) (va_up C n e) := by
  unfold gl
  rw [List.range_succ, List.map_append]
  congr 1
  · apply List.map_congr_left
    intro k hk
    rw [va_up_ne _ _ (Nat.ne_of_lt (List.mem_range.mp hk))]
  · simp [va_up_self]
theorem gl_D {a n : Nat} {C : Nat → va_E} : va_D (fun q => a ≤ q) (gl a n C) := by
  have key : ∀ (k : Nat) (q : Nat × va_E), (gl a n C)[k]? = some q → k < n ∧ q.1 = a + k := by
    intro k q h
    by_cases hk : k < n
    · rw [gl_at hk] at h
      cases h
      exact ⟨hk, rfl⟩
    · rw [gl_ge hk] at h
      cases h
  refine ⟨fun i j x y hi hj hxy => ?_, fun k q hk => ?_⟩
  · have h1 := (key i x hi).2
    have h2 := (key j y hj).2
    omega
  · have h2 := (key k q hk).2
    show a ≤ q.1
    omega
def gw (D : va_G) (cl : List vw_C) (a n : Nat) (C : Nat → va_E) (H0 H : Heap) (locs : List Loc) : Prop := va_P D cl (gl a n C) H ∧ va_S (fun q => a ≤ q) H0 H locs
def gC (p : Program) (c : Code) (cc : ByteArray) (nL : Nat) (s : State) (m : MethodId) (args : Array Value) (own : String) (TT : List Cond) (D : va_G) (cl : List vw_C) (ty : List (ClassId × FieldType)) (ao : List String) (a : Nat) : Prop :=
  CallFix p m c cc nL s args TT own ∧ va_K D cl ty s ∧ (∀ C ∈ ao, va_AO C s) ∧ ∀ q, s.heap.size ≤ q → a ≤ q
/-- an array of references: only what lies in it counts -/
def gE (e e' : va_E) : Prop := e = e' ∨ ∃ (cA : ClassId) (n : Nat) (f f' : Nat → Option Nat), e = .inl (cA, n, .inr (.inr (.inr (.inr f)))) ∧ e' = .inl (cA, n, .inr (.inr (.inr (.inr f')))) ∧ ∀ i, i < n → f i = f' i
theorem gE.at {D : va_G} {cl : List vw_C} {e e' : va_E} {q : Nat} {H : Heap} (h : gE e e') (ha : va_at D cl (q, e) H) : va_at D cl (q, e') H := by
  rcases h with rfl | ⟨cA, n, f, f', rfl, rfl, hf⟩
  · exact ha
  · have h1 : H[q]? = some (vp_cell cA (n, .inr (.inr (.inr (.inr f))))) := ha
    show H[q]? = some (vp_cell cA (n, .inr (.inr (.inr (.inr f')))))
    rw [h1, vp_cell_q, vp_cell_q]
    unfold arrV
    congr 2
    congr 1
    funext j
    show va_rf (f j.val) = va_rf (f' j.val)
    rw [hf j.val j.isLt]
theorem gl_conv {D : va_G} {cl : List vw_C} {a n : Nat} {C C' : Nat → va_E} {H : Heap} (h : ∀ k, k < n → gE (C k) (C' k)) (hP : va_P D cl (gl a n C) H) : va_P D cl (gl a n C') H := by
  intro k q hk
  by_cases hl : k < n
  · rw [gl_at hl] at hk
    cases hk
    exact (h k hl).at (hP k _ (gl_at hl))
  · rw [gl_ge hl] at hk
    cases hk
theorem gl_ws {D : va_G} {cl : List vw_C} {a : Nat} {L : rd_L} {M : rd_M} {H : Heap} (hP : va_P D cl (gl a L.1 (fun k => L.2 (fun i => a + i) k (M k))) H) : va_P D cl (rd_ws L (fun i => a + i) M) H := hP
/-- what a constructor of n cells does -/
def gO (D : va_G) (cl : List vw_C) (a n mc ms : Nat) (C : Nat → va_E) (st : State) (o : Outcome) (t : State) : Prop :=
  o = .returned none ∧ st.WarmedH t.vm ∧ (∃ Lc, st.sameButNew ({ t with vm := st.vm } : State) Lc mc ms ∧ ∀ z ∈ Lc, a ≤ z.base) ∧ (∀ q : Nat, q < st.heap.size → ¬ a ≤ q → t.heap[q]? = st.heap[q]?) ∧ st.heap.size ≤ t.heap.size ∧ va_P D cl (gl a n C) t.heap
def gPre (D : va_G) (cl : List vw_C) (ty : List (ClassId × FieldType)) (ao : List String) (a : Nat) (e0 : va_E) (U : State) : Prop :=
  U.heap.size = a + 1 ∧ va_P D cl [(a, e0)] U.heap ∧ va_K D cl ty U ∧ ∀ C ∈ ao, va_AO C U
/-- rm: frames, locals, cells, slots -/
def gN (l : Launch) (y : MethodName) (cc : ByteArray) (maxL : Nat) (rm : Nat × Nat × Nat × Nat) (TT : List Cond) (D : va_G) (cl : List vw_C) (ty : List (ClassId × FieldType)) (ao : List String) (e0 : va_E) (n : Nat) (C : Nat → Nat → va_E) : Prop :=
  ∀ a, MetFree l y (headSpec (.code y cc maxL none :: TT) { frames := rm.1, cells := rm.2.2.1, slots := rm.2.2.2, locals := rm.2.1 }) (va_Pc [.ref a] (gPre D cl ty ao a e0)) (fun _ _ _ _ _ => True) (fun _ st o t => gO D cl a n rm.2.2.1 rm.2.2.2 (C a) st o t)
theorem gblind {D : va_G} {cl : List vw_C} {ty : List (ClassId × FieldType)} {ao : List String} {a : Nat} {e0 : va_E} {av : List Value} : FrameBlind (va_Pc av (gPre D cl ty ao a e0)) := by
  intro b U g mk q
  obtain ⟨q0, q1, q2, q3, q4⟩ := q
  have hv : U.vm.Alike (U.calling g mk b).vm := Vm.Alike.refl U.vm
  exact ⟨q0, q1, q2, va_K.moved hv q3, fun C hC => va_AO.moved hv (q4 C hC)⟩
section GB
variable {l : Launch} {y : MethodName} {cc : ByteArray} {maxL : Nat} {rm : Nat × Nat × Nat × Nat} {TT : List Cond} {D : va_G} {cl : List vw_C} {ty : List (ClassId × FieldType)} {ao : List String} {e0 : va_E} {n : Nat} {C : Nat → Nat → va_E}
theorem g_body (hy : plainName y.cls = true) (hi : y.name = "<init>") (hm : 1 ≤ maxL)
    (body : ∀ (a : Nat) (p : Program) (e : Env) (s : State) (m : MethodId) (below : List Frame) (meth : Method) (c : Code), gC p c cc maxL s m #[Value.ref a] y.cls TT D cl ty ao a → meth.locks = false → meth.sig.returnType = none → meth.name = "<init>" → s.heap.size = a + 1 → gw D cl a 1 (fun _ => e0) s.heap s.heap [] → ∀ ls : Array Slot, lv_has ls maxL [(0, .ref a)] →
      W p l e { frames := rm.1, cells := rm.2.2.1, slots := rm.2.2.2, locals := rm.2.1 } s m #[Value.ref a] below meth c s.heap [] 0 0 (rd_Z below (gO D cl a n rm.2.2.1 rm.2.2.2 (C a)) s) (F0 m 0 ls [])) : gN l y cc maxL rm TT D cl ty ao e0 n C := by
  intro a
  refine MetFree.of_bodyS (code := cc) (maxLocals := maxL) (ret := none) hy ?_ ?_
  · intro args s m h hn
    obtain ⟨meth, c, h1, h2, h3, h4, h5, h6, -, -⟩ := Cond.code_spec hn (atoms_spec (ws := Cond.code y cc maxL none :: TT) h _ List.mem_cons_self)
    exact ⟨meth, c, h1, h2, h3, h4, h5, h6⟩
  intro p e s m args below meth c s₁ B hml hv _
  obtain ⟨rfl, hsz, hP, hK, hao⟩ := hv
  have hts : ∀ w ∈ (Cond.code y cc maxL none :: TT), w.before [Value.ref a].toArray s = true := atoms_spec (ws := Cond.code y cc maxL none :: TT) B.pre
  have hl := lv_entry [.ref a] (n := maxL) hm
  have hh : s₁.heap = s.heap := by rw [B.state]; rfl
  have hin : meth.name = "<init>" := (name_of_methodNamed B.named B.method).1.trans hi
  have key := body a p e s m below meth c ⟨⟨B.exec, B.bytes, hml, findClass_of_methodNamed B.named, fun w h => hts w (List.mem_cons_of_mem _ h)⟩, hK, hao, fun q h => by omega⟩ B.notSynchronized B.returns hin hsz ⟨hP, va_S.rf⟩ _ hl
  rw [← lg_entry_eq] at key
  obtain ⟨t, a1, o, b1, b2, b3⟩ := key s₁ hh (Stand.of_body B)
  exact ⟨t, o, a1, b1, b2, b3⟩
end GB
section GR
variable {p : Program} {l : Launch} {e : Env} {R : Room} {s : State} {m : MethodId} {args : Array Value} {below : List Frame} {meth : Method} {c : Code} {H : Heap} {locs : List Loc} {cells slots : Nat} {Q : State → Prop}
variable {cc : ByteArray} {nL : Nat} {own : String} {TT : List Cond} {D : va_G} {cl : List vw_C} {ty : List (ClassId × FieldType)} {ao : List String} {a n : Nat} {C : Nat → va_E} {pc : Nat} {ls : Array Slot} {rest : List Value}
theorem gw_size (hW : gw D cl a n C s.heap H locs) {T : State} (hT : T.heap = H) (X : Stand p l e R s m args below meth c T locs cells slots) (hc : s.heap.size + cells = a + n) (h0 : n = 0 → s.heap.size = a) : H.size = a + n := by
  have h1 : T.heap.size ≤ s.heap.size + cells := X.same.2.2.1
  rw [hT] at h1
  have h2 := hW.2.1
  by_cases hn : n = 0
  · have := h0 hn; omega
  · have h3 := (hW.1 (n - 1) _ (gl_at (by omega))).lt
    have h4 : a + (n - 1) < H.size := h3
    omega
theorem g_newa (C9 : gC p c cc nL s m args own TT D cl ty ao a) (hW : gw D cl a n C s.heap H locs) (hc : s.heap.size + cells = a + n) (h0 : n = 0 → s.heap.size = a) {atype : ArrayType} (harr : Cond.arrayClass (newarray.typeOf atype) ∈ TT) {t0 : Nat} {cT : ClassId} (ht : ty[t0]? = some (cT, newarray.typeOf atype)) (hpr : ∀ z, newarray.typeOf atype ≠ .object z)
    {N : Nat} {i : Int32} {a0 : vp_A} (ha : ∀ cA : ClassId, vp_cell cA a0 = arrV cA N (fun _ => defaultValue (newarray.typeOf atype))) (hn : ¬ i < 0) (hN : i.toNatClampNeg = N) (hbytes : N * componentBytes (newarray.typeOf atype) ≤ 536870912) (hcells : cells + 1 ≤ R.cells) (hslots : slots + N ≤ R.slots) (hdg : decode cc pc = .ok (.newarray atype, 2))
    (kk : ∀ H1 : Heap, gw D cl a (n + 1) (va_up C n (.inl (cT, a0))) s.heap H1 locs → W p l e R s m args below meth c H1 locs (cells + 1) (slots + N) Q (F0 m (pc + 2) ls (.ref (a + n) :: rest))) : W p l e R s m args below meth c H locs cells slots Q (F0 m pc ls (.int i :: rest)) := by
  intro T hT X
  have hz := gw_size hW hT X hc h0
  obtain ⟨⟨hx, hb, hml, hown, hts⟩, hK, hao, hA⟩ := C9
  have hRA : s.vm.findClass ("[" ++ (newarray.typeOf atype).toString) = some cT := by
    have h9 := (hK.2 t0 _ ht).2
    unfold va_RA at h9
    revert h9 hpr
    cases newarray.typeOf atype <;> intro hpr h9 <;> first | exact h9 | exact absurd rfl (hpr _)
  refine (show W p l e R s m args below meth c H locs cells slots Q (F0 m pc ls (.int i :: rest)) from ?_) T hT X
  refine va_newaK hx hb (hts _ harr) rfl hdg rfl hn hN hbytes hcells hslots hz (fun H1 cA e1 z1 o1 hAr hNm => ?_)
  cases Option.some.inj (hNm.symm.trans hRA)
  have hk : ∀ (k : Nat) (x : Nat × va_E), (gl a n C)[k]? = some x → H1[x.1]? = H[x.1]? := fun k x hx => o1 x.1 (by have := (hW.1 k x hx).lt; omega)
  refine kk H1 ⟨?_, ⟨Nat.le_trans hW.2.1 (by omega), fun x h1 h2 => (o1 x (by have := hW.2.1; omega)).trans (hW.2.2.1 x h1 h2), hW.2.2.2⟩⟩
  rw [← gl_push]
  refine (hW.1.kept hk).app (fun k x hx => ?_)
  have hz : k < 1 := (List.getElem?_eq_some_iff.mp hx).1
  rw [show k = 0 by omega] at hx
  cases hx
  show H1[a + n]? = some (vp_cell _ _)
  rw [ha]
  exact e1
theorem g_newq (C9 : gC p c cc nL s m args own TT D cl ty ao a) (hW : gw D cl a n C s.heap H locs) (hc : s.heap.size + cells = a + n) (h0 : n = 0 → s.heap.size = a) {K : String} {index : Nat} (hcl : Cond.classLink own index K ∈ TT) (hK9 : K ∈ ao) {t0 : Nat} {cT : ClassId} (ht : ty[t0]? = some (cT, .object K))
    {N : Nat} {i : Int32} (hn : ¬ i < 0) (hN : i.toNatClampNeg = N) (hbytes : N * 4 ≤ 536870912) (hcells : cells + 1 ≤ R.cells) (hslots : slots + N ≤ R.slots) (hdg : decode cc pc = .ok (.anewarray index, 3))
    (kk : ∀ H1 : Heap, gw D cl a (n + 1) (va_up C n (.inl (cT, N, .inr (.inr (.inr (.inr (fun _ => none))))))) s.heap H1 locs → W p l e R s m args below meth c H1 locs (cells + 1) (slots + N) Q (F0 m (pc + 3) ls (.ref (a + n) :: rest))) : W p l e R s m args below meth c H locs cells slots Q (F0 m pc ls (.int i :: rest)) := by
  intro T hT X
  have hz := gw_size hW hT X hc h0
  obtain ⟨⟨hx, hb, hml, hown, hts⟩, hK, hao, hA⟩ := C9
  obtain ⟨kA9, comp9, -, -, -, hRA⟩ := (hK.2 t0 _ ht).2
  subst hN
  refine (show W p l e R s m args below meth c H locs cells slots Q (F0 m pc ls (.int i :: rest)) from ?_) T hT X
  refine W.anew hx hb hown (hts _ hcl) (va_AO.use (hao K hK9)) rfl hdg rfl hn hbytes hcells hslots (fun cA kA comp f1 f2 f3 f4 => ?_)
  have hRA : s.vm.findClass ("[" ++ (FieldType.object K).toString) = some cT := hRA
  obtain rfl := Option.some.inj (hRA.symm.trans f1)
  generalize hH1 : H.push ({ cls := cT, slots := Array.replicate i.toNatClampNeg .null, vm := .none } : Cell) = H1
  have z1 : H1.size = H.size + 1 := by rw [← hH1, Array.size_push]
  have e1 : H1[H.size]? = some (arrV cT i.toNatClampNeg (fun _ => .null)) := by rw [← hH1, Array.getElem?_push_size, ← arrV_new]
  have o1 : ∀ q : Nat, q < H.size → H1[q]? = H[q]? := fun q hq => by rw [← hH1, Array.getElem?_push, if_neg (Nat.ne_of_lt hq)]
  rw [hz] at e1 ⊢
  have hk : ∀ (k : Nat) (x : Nat × va_E), (gl a n C)[k]? = some x → H1[x.1]? = H[x.1]? := fun k x hx => o1 x.1 (hW.1 k x hx).lt
  refine kk H1 ⟨?_, ⟨Nat.le_trans hW.2.1 (by omega), fun x h1 h2 => (o1 x (Nat.lt_of_lt_of_le h1 hW.2.1)).trans (hW.2.2.1 x h1 h2), hW.2.2.2⟩⟩
  rw [← gl_push]
  refine (hW.1.kept hk).app (fun k x hx => ?_)
  have hz : k < 1 := (List.getElem?_eq_some_iff.mp hx).1
  rw [show k = 0 by omega] at hx
  cases hx
  show H1[a + n]? = some (vp_cell _ _)
  rw [vp_cell_q]
  exact e1
theorem g_new (C9 : gC p c cc nL s m args own TT D cl ty ao a) (hW : gw D cl a n C s.heap H locs) (hc : s.heap.size + cells = a + n) (h0 : n = 0 → s.heap.size = a) {K : String} {T : u_T} {N ci index : Nat} (hin : ∀ w ∈ u_ws K T N, w ∈ TT) (t1 : Nat → FieldType) (hty : ∀ k, k < N → parseFieldDescriptor (T k).2.2.1 = some (t1 k)) (hcl : Cond.classLink own index K ∈ TT) (hinst : Cond.instantiable K N ∈ TT) (hini : Cond.initialized K ∈ TT) (hci : cl[ci]? = some (K, T, N)) {fs : List Value} (hfs : ∀ j, j < N → defaultValue (t1 j) = vp_V fs j)
    (hcells : cells + 1 ≤ R.cells) (hslots : slots + N ≤ R.slots) (hdg : decode cc pc = .ok (.new index, 3))
    (kk : ∀ H1 : Heap, gw D cl a (n + 1) (va_up C n (.inr (ci, fs))) s.heap H1 locs → W p l e R s m args below meth c H1 locs (cells + 1) (slots + N) Q (F0 m (pc + 3) ls (.ref (a + n) :: rest))) : W p l e R s m args below meth c H locs cells slots Q (F0 m pc ls rest) := by
  intro T9 hT X
  have hz := gw_size hW hT X hc h0
  obtain ⟨⟨hx, hb, hml, hown, hts⟩, hK, hao, hA⟩ := C9
  have hKn := hK.1 ci _ hci
  refine (show W p l e R s m args below meth c H locs cells slots Q (F0 m pc ls rest) from ?_) T9 hT X
  refine W.newcK hx hb hown (hts _ hcl) (hts _ hinst) (hts _ hini) rfl hdg hcells hslots hKn.2.1 hz (fun H1 kC hkC e1 z1 o1 => ?_)
  have hk : ∀ (k : Nat) (x : Nat × va_E), (gl a n C)[k]? = some x → H1[x.1]? = H[x.1]? := fun k x hx => o1 x.1 (by have := (hW.1 k x hx).lt; omega)
  refine kk H1 ⟨?_, ⟨Nat.le_trans hW.2.1 (by omega), fun x h1 h2 => (o1 x (by have := hW.2.1; omega)).trans (hW.2.2.1 x h1 h2), hW.2.2.2⟩⟩
  rw [← gl_push]
  refine (hW.1.kept hk).app (fun k x hx => ?_)
  have hz : k < 1 := (List.getElem?_eq_some_iff.mp hx).1
  rw [show k = 0 by omega] at hx
  cases hx
  exact ⟨_, hci, (u_born t1 hts hin hKn hkC e1 hty).to hfs⟩
theorem g_get (C9 : gC p c cc nL s m args own TT D cl ty ao a) (hW : gw D cl a n C s.heap H locs) {k : Nat} (hk : k < n) {ci : Nat} {fs : List Value} (he : C k = .inr (ci, fs)) {K : String} {T : u_T} {N : Nat} (hci : cl[ci]? = some (K, T, N)) (hin : ∀ w ∈ u_ws K T N, w ∈ TT) (j : Nat) (hj : j < N) {v : Value} (hv : fs[j]? = some v) {index : Nat} (hl : Cond.fieldLink own index (T j).1 (T j).2.1 (T j).2.2.1 ∈ TT) (hdg : decode cc pc = .ok (.getfield index, 3))
    (kk : W p l e R s m args below meth c H locs cells slots Q (F0 m (pc + 3) ls (v :: rest))) : W p l e R s m args below meth c H locs cells slots Q (F0 m pc ls (.ref (a + k) :: rest)) := by
  obtain ⟨⟨hx, hb, hml, hown, hts⟩, hK, -, -⟩ := C9
  exact va_get hx hb hts hin hown hK hW.1 k (by rw [gl_at hk, he]) hci j hj (hts _ hl) (fun _ h => h) hv hdg kk
theorem g_put (C9 : gC p c cc nL s m args own TT D cl ty ao a) (hW : gw D cl a n C s.heap H locs) {k : Nat} (hk : k < n) {ci : Nat} {fs : List Value} (he : C k = .inr (ci, fs)) {K : String} {T : u_T} {N : Nat} (hci : cl[ci]? = some (K, T, N)) (hin : ∀ w ∈ u_ws K T N, w ∈ TT) (t1 : Nat → FieldType) (hty : ∀ k, k < N → parseFieldDescriptor (T k).2.2.1 = some (t1 k)) (hnm : ∀ a, a < N → ∀ b, b < N → a ≠ b → (T a).2.1 ≠ (T b).2.1) (j : Nat) (hj : j < N) {index : Nat} (hl : Cond.fieldLink own index (T j).1 (T j).2.1 (T j).2.2.1 ∈ TT) (hfin : (T j).2.2.2 = false) {t : FieldType} {v : Value} (hd : parseFieldDescriptor (T j).2.2.1 = some t) (hn : narrow t v = v) (hfit : fits t v = true) (hlen : j < fs.length) (hdg : decode cc pc = .ok (.putfield index, 3))
    (kk : ∀ (H1 : Heap) (locs1 : List Loc), gw D cl a n (va_up C k (.inr (ci, fs.set j v))) s.heap H1 locs1 → W p l e R s m args below meth c H1 locs1 cells slots Q (F0 m (pc + 3) ls rest)) : W p l e R s m args below meth c H locs cells slots Q (F0 m pc ls (v :: .ref (a + k) :: rest)) := by
  obtain ⟨⟨hx, hb, hml, hown, hts⟩, hK, -, -⟩ := C9
  refine va_put hx hb hts hin t1 hty hnm hown hK hW.1 gl_D hW.2 k (by rw [gl_at hk, he]) hci j hj (hts _ hl) (fun _ h => h) hfin hd hn hfit hlen hdg (fun H1 locs1 h1 h2 h3 => kk H1 locs1 ⟨?_, h3⟩)
  rw [gl_set] at h1
  exact h1
theorem g_putF (hin2 : meth.name = "<init>") (C9 : gC p c cc nL s m args own TT D cl ty ao a) (hW : gw D cl a n C s.heap H locs) {k : Nat} (hk : k < n) {ci : Nat} {fs : List Value} (he : C k = .inr (ci, fs)) {K : String} {T : u_T} {N : Nat} (hci : cl[ci]? = some (K, T, N)) (hin : ∀ w ∈ u_ws K T N, w ∈ TT) (t1 : Nat → FieldType) (hty : ∀ k, k < N → parseFieldDescriptor (T k).2.2.1 = some (t1 k)) (hnm : ∀ a, a < N → ∀ b, b < N → a ≠ b → (T a).2.1 ≠ (T b).2.1) (j : Nat) (hj : j < N) {index : Nat} (hl : Cond.fieldLink own index (T j).1 (T j).2.1 (T j).2.2.1 ∈ TT) (hfin : (T j).2.2.2 = true) (hdecl : (T j).1 = own) {t : FieldType} {v : Value} (hd : parseFieldDescriptor (T j).2.2.1 = some t) (hn : narrow t v = v) (hfit : fits t v = true) (hlen : j < fs.length) (hdg : decode cc pc = .ok (.putfield index, 3))
    (kk : ∀ (H1 : Heap) (locs1 : List Loc), gw D cl a n (va_up C k (.inr (ci, fs.set j v))) s.heap H1 locs1 → W p l e R s m args below meth c H1 locs1 cells slots Q (F0 m (pc + 3) ls rest)) : W p l e R s m args below meth c H locs cells slots Q (F0 m pc ls (v :: .ref (a + k) :: rest)) := by
  obtain ⟨⟨hx, hb, hml, hown, hts⟩, hK, -, -⟩ := C9
  refine va_putF hx hb hts hin t1 hty hnm hown hK hW.1 gl_D hW.2 k (by rw [gl_at hk, he]) hci j hj (hts _ hl) (fun _ h => h) hfin hin2 hdecl hd hn hfit hlen hdg (fun H1 locs1 h1 h2 h3 => kk H1 locs1 ⟨?_, h3⟩)
  rw [gl_set] at h1
  exact h1
theorem g_iast (C9 : gC p c cc nL s m args own TT D cl ty ao a) (hW : gw D cl a n C s.heap H locs) {k : Nat} (hk : k < n) {cA : ClassId} {N : Nat} {f : Nat → Int32} (he : C k = .inl (cA, N, .inl f)) {t0 : Nat} (ht : ty[t0]? = some (cA, .int)) {j9 : Int32} {i : Nat} (hxi : j9.toNatClampNeg = i) (hi : vp_in j9 N) {v : Int32} (hdg : decode cc pc = .ok (.iastore, 1))
    (kk : ∀ (H1 : Heap) (locs1 : List Loc), gw D cl a n (va_up C k (.inl (cA, N, .inl (upd f i v)))) s.heap H1 locs1 → W p l e R s m args below meth c H1 locs1 cells slots Q (F0 m (pc + 1) ls rest)) : W p l e R s m args below meth c H locs cells slots Q (F0 m pc ls (.int v :: .int j9 :: .ref (a + k) :: rest)) := by
  obtain ⟨⟨hx, hb, hml, hown, hts⟩, hK, -, -⟩ := C9
  refine va_iast hx hb hK hW.1 gl_D hW.2 k t0 (by rw [gl_at hk, he]) ht hi hdg (fun H1 locs1 h1 h2 h3 => kk H1 locs1 ⟨?_, h3⟩)
  rw [hxi, gl_set] at h1
  exact h1
theorem g_last (C9 : gC p c cc nL s m args own TT D cl ty ao a) (hW : gw D cl a n C s.heap H locs) {k : Nat} (hk : k < n) {cA : ClassId} {N : Nat} {f : Nat → Int64} (he : C k = .inl (cA, N, .inr (.inl f))) {t0 : Nat} (ht : ty[t0]? = some (cA, .long)) {j9 : Int32} {i : Nat} (hxi : j9.toNatClampNeg = i) (hi : vp_in j9 N) {v : Int64} (hdg : decode cc pc = .ok (.lastore, 1))
    (kk : ∀ (H1 : Heap) (locs1 : List Loc), gw D cl a n (va_up C k (.inl (cA, N, .inr (.inl (vp_updL f i v))))) s.heap H1 locs1 → W p l e R s m args below meth c H1 locs1 cells slots Q (F0 m (pc + 1) ls rest)) : W p l e R s m args below meth c H locs cells slots Q (F0 m pc ls (.long v :: .int j9 :: .ref (a + k) :: rest)) := by
  obtain ⟨⟨hx, hb, hml, hown, hts⟩, hK, -, -⟩ := C9
  refine va_last hx hb hK hW.1 gl_D hW.2 k t0 (by rw [gl_at hk, he]) ht hi hdg (fun H1 locs1 h1 h2 h3 => kk H1 locs1 ⟨?_, h3⟩)
  rw [hxi, gl_set] at h1
  exact h1
theorem g_dast (C9 : gC p c cc nL s m args own TT D cl ty ao a) (hW : gw D cl a n C s.heap H locs) {k : Nat} (hk : k < n) {cA : ClassId} {N : Nat} {f : Nat → UInt64} (he : C k = .inl (cA, N, .inr (.inr (.inr (.inl f))))) {t0 : Nat} (ht : ty[t0]? = some (cA, .double)) {j9 : Int32} {i : Nat} (hxi : j9.toNatClampNeg = i) (hi : vp_in j9 N) {v : UInt64} (hdg : decode cc pc = .ok (.dastore, 1))
    (kk : ∀ (H1 : Heap) (locs1 : List Loc), gw D cl a n (va_up C k (.inl (cA, N, .inr (.inr (.inr (.inl (vf_upd f i v))))))) s.heap H1 locs1 → W p l e R s m args below meth c H1 locs1 cells slots Q (F0 m (pc + 1) ls rest)) : W p l e R s m args below meth c H locs cells slots Q (F0 m pc ls (.double v :: .int j9 :: .ref (a + k) :: rest)) := by
  obtain ⟨⟨hx, hb, hml, hown, hts⟩, hK, -, -⟩ := C9
  refine va_dast hx hb hK hW.1 gl_D hW.2 k t0 (by rw [gl_at hk, he]) ht hi hdg (fun H1 locs1 h1 h2 h3 => kk H1 locs1 ⟨?_, h3⟩)
  rw [hxi, gl_set] at h1
  exact h1
theorem g_aast (C9 : gC p c cc nL s m args own TT D cl ty ao a) (hW : gw D cl a n C s.heap H locs) {k : Nat} (hk : k < n) {cA : ClassId} {N : Nat} {f : Nat → Option Nat} (he : C k = .inl (cA, N, .inr (.inr (.inr (.inr f))))) {t0 : Nat} {r : vw_C} (ht : ty[t0]? = some (cA, .object r.1)) {k2 : Nat} (hk2 : k2 < n) {ci : Nat} {vs : List Value} (he2 : C k2 = .inr (ci, vs)) (hci : cl[ci]? = some r) {j9 : Int32} {i : Nat} (hxi : j9.toNatClampNeg = i) (hi : vp_in j9 N) (hdg : decode cc pc = .ok (.aastore, 1))
    (kk : ∀ (H1 : Heap) (locs1 : List Loc), gw D cl a n (va_up C k (.inl (cA, N, .inr (.inr (.inr (.inr (va_up f i (some (a + k2)))))))) ) s.heap H1 locs1 → W p l e R s m args below meth c H1 locs1 cells slots Q (F0 m (pc + 1) ls rest)) : W p l e R s m args below meth c H locs cells slots Q (F0 m pc ls (.ref (a + k2) :: .int j9 :: .ref (a + k) :: rest)) := by
  obtain ⟨⟨hx, hb, hml, hown, hts⟩, hK, -, -⟩ := C9
  refine va_astq hx hb hK hW.1 gl_D hW.2 k t0 k2 ci (by rw [gl_at hk, he]) ht (by rw [gl_at hk2, he2]) hci hi hdg (fun H1 locs1 h1 h2 h3 => kk H1 locs1 ⟨?_, h3⟩)
  rw [hxi, gl_set] at h1
  exact h1
theorem g_ret (C9 : gC p c cc nL s m args own TT D cl ty ao a) (hlk : meth.locks = false) (hr : meth.sig.returnType = none) (hW : gw D cl a n C s.heap H locs) {C' : Nat → va_E} (hC : ∀ k, k < n → gE (C k) (C' k)) {mc ms : Nat} (hc : cells ≤ mc) (hs : slots ≤ ms) (hdg : decode cc pc = .ok (.return_, 1)) :
    W p l e R s m args below meth c H locs cells slots (rd_Z below (gO D cl a n mc ms C') s) (F0 m pc ls []) := by
  refine W.widen hc hs ?_
  have k : W p l e R s m args below meth c H locs mc ms (MQ below (fun _ st o t => o = .returned none ∧ va_F (fun q => a ≤ q) st t ∧ va_P D cl (gl a n C') t.heap) args s mc ms (fun q => a ≤ q)) (F0 m pc ls []) := W.vret C9.1.1 C9.1.2.1 hr (fun t ht _ => ⟨rfl, hW.2.F ht, by rw [ht]; exact gl_conv hC hW.1⟩) hW.2.2.2 hdg hlk
  intro T hT X
  obtain ⟨t, a1, o, b1, b2, ⟨b3, b4, b6⟩, Lc, ⟨-, b7, b8⟩, b9⟩ := k T hT X
  exact ⟨t, a1, o, b1, b2, b3, b7, ⟨Lc, b8, b9⟩, b4.2, b4.1, b6⟩
/-- a constructor of the cell made last -/
theorem g_call (hg : TT.all goodWord = true) (C9 : gC p c cc nL s m args own TT D cl ty ao a) (hW : gw D cl a (n + 1) C s.heap H locs) (hc0 : s.heap.size + cells = a + (n + 1)) {y : MethodName} {bytes : ByteArray} {maxL : Nat} {rm : Nat × Nat × Nat × Nat} {e0 : va_E} {n1 : Nat} {C1 : Nat → Nat → va_E} (hM : gN l y bytes maxL rm TT D cl ty ao e0 n1 C1) (he : C n = e0) (kc : rd_Cal TT y bytes maxL none 0) (hy1 : y.name = "<init>") (ki : Cond.instanceMethod y ∈ TT) {index : Nat} (hl : Cond.methodLink own index y ∈ TT)
    (hR : rm.1 + 1 ≤ R.frames ∧ 8 + (maxL + 11) + rm.2.1 ≤ R.locals) (hf : cells + rm.2.2.1 ≤ R.cells ∧ slots + rm.2.2.2 ≤ R.slots) (hsz : ls.size = nL) (hr8 : (rest.map fun v => v.category).sum ≤ 8) (hdg : decode cc pc = .ok (.invokespecial index, 3))
    (kk : ∀ (H1 : Heap) (locs1 : List Loc), gw D cl a (n + n1) (fun k => if k < n then C k else C1 (a + n) (k - n)) s.heap H1 locs1 → W p l e R s m args below meth c H1 locs1 (cells + rm.2.2.1) (slots + rm.2.2.2) Q (F0 m (pc + 3) ls rest)) : W p l e R s m args below meth c H locs cells slots Q (F0 m pc ls (.ref (a + n) :: rest)) := by
  intro T9 hT X
  have hz := gw_size hW hT X hc0 (fun h => by omega)
  obtain ⟨⟨hx, hb, hml, hown, hts⟩, hK, hao, hA⟩ := id C9
  have hpl : e.platform.magicAccessors = ({} : Platform).magicAccessors := by rw [X.admits.platform]
  obtain ⟨mk, methM, cM, kP, vm₁, hnamed, hmethM, hcodeM, -, hlocalsM, -, hkP, -, hW₁, hstep₁⟩ := Steps.initColdArgs (e := e) X.here hx X.warmed hpl hown hy1 kc.2.2.1 (hts _ hl) (hts _ ki) (hts _ kc.1) (f := F0 m pc ls (.ref (a + n) :: rest)) rfl (a := a + n) (argsL := []) (rest := rest) (fun sig h => by
    have h9 := kc.2.2.2
    rw [h] at h9
    exact (Option.some.inj h9).symm) rfl (by rw [hb]; exact hdg)
  have X₁ := X.noted hW₁
  have hpre : gPre D cl ty ao (a + n) e0 (T9.setVm vm₁) := by
    refine ⟨by rw [show (T9.setVm vm₁).heap = H from hT, hz]; omega, ?_, va_K.moved X₁.warmed.alike hK, fun z hz => va_AO.moved X₁.warmed.alike (hao z hz)⟩
    rw [show (T9.setVm vm₁).heap = H from hT]
    intro k x hx
    have hz : k < 1 := (List.getElem?_eq_some_iff.mp hx).1
    rw [show k = 0 by omega] at hx
    cases hx
    have h9 := hW.1 n _ (gl_at (by omega))
    rw [he] at h9
    exact h9
  obtain ⟨o, t, T', ⟨rfl, hWt, ⟨Lc, hsm, hLc⟩, hold, hsz9, hP9⟩, e1, e2, hst, hret, -⟩ := rd_core (hM (a + n)) gblind (fun _ _ _ h => ⟨h.2.1, by obtain ⟨Lc, q1, -⟩ := h.2.2.1; exact ⟨Lc, q1⟩, Or.inl ⟨none, h.1⟩⟩) hR.1 hR.2 (rd_pays hg hts kc.1) List.mem_cons_self (fun b U h => pay_in hts (fun w hw => ⟨hw, good_of_word (List.all_eq_true.mp hg w hw)⟩) _ kc.2.1 b U h) X₁ (g := F0 m pc ls rest) rfl (hsz.trans hml.symm) (ig := .invokespecial index) (by rw [hb]; exact hdg) (lv_room hr8) (X₁.named hnamed) ⟨rfl, hpre⟩ hf.1 hf.2
  have hold : ∀ q : Nat, q < H.size → ¬ a + n ≤ q → t.heap[q]? = H[q]? := by have h9 := hold; rw [show ((T9.setVm vm₁).calling (F0 m pc ls rest) mk (Value.ref (a + n) :: []).toArray).heap = H from hT] at h9; exact h9
  have hsz9 : H.size ≤ t.heap.size := by have h9 := hsz9; rw [show ((T9.setVm vm₁).calling (F0 m pc ls rest) mk (Value.ref (a + n) :: []).toArray).heap = H from hT] at h9; exact h9
  have hgw : gw D cl a (n + n1) (fun k => if k < n then C k else C1 (a + n) (k - n)) s.heap T'.heap (locs ++ Lc) := by
    rw [e1]
    refine ⟨fun k q hq => ?_, Nat.le_trans hW.2.1 hsz9, fun q h1 h2 => ?_, fun z hz => ?_⟩
    · by_cases hk : k < n + n1
      · rw [gl_at hk] at hq
        cases hq
        by_cases hk2 : k < n
        · show va_at D cl (a + k, if k < n then C k else C1 (a + n) (k - n)) t.heap
          rw [if_pos hk2]
          have h9 := hW.1 k _ (gl_at (by omega))
          exact h9.kept (hold _ h9.lt (by show ¬ a + n ≤ a + k; omega))
        · show va_at D cl (a + k, if k < n then C k else C1 (a + n) (k - n)) t.heap
          rw [if_neg hk2]
          have h9 := hP9 (k - n) _ (gl_at (by omega))
          rw [show a + n + (k - n) = a + k by omega] at h9
          exact h9
      · rw [gl_ge hk] at hq
        cases hq
    · rw [hold q (by have := hW.2.1; omega) (fun z => h2 (by show a ≤ q; omega))]
      exact hW.2.2.1 q h1 h2
    · rcases List.mem_append.mp hz with h | h
      · exact hW.2.2.2 z h
      · have h9 := hLc z h
        show a ≤ z.base
        omega
  obtain ⟨t2, a1, b1⟩ := kk T'.heap (locs ++ Lc) hgw T' rfl (hst Lc hsm)
  exact ⟨t2, hstep₁ _ (fun acts => by rw [doInvoke_state]; exact (hret none rfl).trans a1), b1⟩
theorem g_obj (C9 : gC p c cc nL s m args own TT D cl ty ao a) {idx : Nat} (hl : Cond.methodLink own idx Lib.objectInit ∈ TT) (hi : Cond.instanceMethod Lib.objectInit ∈ TT) (hc : Cond.code Lib.objectInit ⟨#[0xb1]⟩ 1 none ∈ TT) (hsz : ls.size = nL) {q : Addr} (hR : 1 ≤ R.frames ∧ (rest.map fun v => v.category).sum + 12 ≤ R.locals) (hdg : decode cc pc = .ok (.invokespecial idx, 3))
    (kk : W p l e R s m args below meth c H locs cells slots Q (F0 m (pc + 3) ls rest)) : W p l e R s m args below meth c H locs cells slots Q (F0 m pc ls (.ref q :: rest)) := by
  obtain ⟨⟨hx, hb, hml, hown, hts⟩, -, -, -⟩ := C9
  exact W.objInit hx hb hown (hts _ hl) (hts _ hi) (hts _ hc) rfl (hsz.trans hml.symm) rfl hdg hR.1 (by show 2 * 0 + _ + 12 ≤ _; have := hR.2; omega) kk
end GR
