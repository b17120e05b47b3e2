/-! contracts over a memory: a method returns with a new memory, or throws and leaves the memory as it was -/
/-- texts, and words that hold of warmer tables too though no list keeps them -/
abbrev rd_SS : Type := List (String × Nat × String) × List Cond × List (String × String)
def rd_nk : Cond → Bool
  | .castable .. => true
  | .declares .. => true
  | _ => false
/-- what a throw needs of the heap: two statics of Throwable, where they lie and that they hold references; the texts that are constants -/
def rd_St (n d : String) (A : Nat → Prop) (U : State) (H : Heap) : Prop :=
  va_Zq Bundle.tN n d A U H ∧ ∃ (c : ClassId) (k : Class) (i : Nat) (f : Field) (a : Nat) (cell : Cell), U.vm.findClass Bundle.tN = some c ∧ U.fieldFound? Bundle.tN n d = some (c, k, i, f) ∧ f.isStatic = true ∧ k.statics = some a ∧ H[a]? = some cell ∧ cell.vm.isStatics = true ∧ cell.cls = c ∧ f.slot < cell.slots.size ∧ k.staticTypes[f.slot]? = some f.type ∧ ¬ A a
def rd_Th (ss : rd_SS) (A : Nat → Prop) (U : State) (H : Heap) : Prop :=
  rd_St "UNASSIGNED_STACK" Bundle.steD A U H ∧ rd_St "SUPPRESSED_SENTINEL" Bundle.listD A U H ∧ (∀ q ∈ ss.1, ∃ a, vk_R q.1 q.2.1 q.2.2 a U) ∧ (∀ w ∈ ss.2.1, rd_nk w = true ∧ va_Nw w U) ∧ ∀ q ∈ ss.2.2, va_Nc q.1 q.2 U
theorem rd_St.go {n d : String} {A B : Nat → Prop} {u U : State} {H H1 : Heap} (h : rd_St n d A u H) (hq : ∀ a : Nat, a < H.size → ¬ A a → H1[a]? = H[a]?) (hB : ∀ q, B q → A q) (hvm : u.vm.Alike U.vm) : rd_St n d B U H1 := by
  obtain ⟨h0, c, k, i, f, a, cell, h1, h2, h3, h4, h5, h6, h7, h8, h9, h10⟩ := h
  obtain ⟨k', hi', he⟩ := State.fieldFound?_setVm hvm h2
  refine ⟨((h0.kept hq).narrow hB).moved hvm, c, k', i, f, a, cell, by rw [hvm.findClass]; exact h1, hi', h3, by rw [he]; exact h4, ?_, h6, h7, h8, by rw [he]; exact h9, fun z => h10 (hB _ z)⟩
  rw [hq a (Array.getElem?_eq_some_iff.mp h5).1 h10]
  exact h5
def rd_Pre (D : va_G) (cl : List vw_C) (ty : List (ClassId × FieldType)) (L : rd_L) (ad : Nat → Nat) (M : rd_M) (ss : rd_SS) (sz : Nat) (U : State) : Prop :=
  U.heap.size = sz ∧ va_P D cl (rd_ws L ad M) U.heap ∧ va_K D cl ty U ∧ rd_Th ss (rd_A L ad sz) U U.heap
/-- how a method ends -/
def rd_O (D : va_G) (cl : List vw_C) (L : rd_L) (ad : Nat → Nat) (M : rd_M) (A : Nat → Prop) (mc ms : Nat) (post : Option Value → rd_M → Prop) (ex : String → Prop) (st : State) (o : Outcome) (t : State) : Prop :=
  va_F A st t ∧ st.WarmedH t.vm ∧ (∃ Lc, st.sameButNew ({ t with vm := st.vm } : State) Lc mc ms ∧ ∀ z ∈ Lc, A z.base) ∧
    ((∃ (r : Option Value) (M1 : rd_M), o = .returned r ∧ post r M1 ∧ va_P D cl (rd_ws L ad M1) t.heap) ∨
      ∃ (q : Addr) (E : String) (ce : Cell), o = .threw q ∧ ex E ∧ va_P D cl (rd_ws L ad M) t.heap ∧ t.heap[q]? = some ce ∧ ce.vm = .none ∧ st.vm.findClass E = some ce.cls)
/-- rm: frames, locals, cells, slots -/
def rd_Met (l : Launch) (y : MethodName) (cc : ByteArray) (maxL : Nat) (rt : Option FieldType) (rm : Nat × Nat × Nat × Nat) (TT : List Cond) (ss : rd_SS) (D : va_G) (cl : List vw_C) (ty : List (ClassId × FieldType)) (L : rd_L) (ad : Nat → Nat) (M : rd_M) (av : List Value) (post : Option Value → rd_M → Prop) (ex : String → Prop) : Prop :=
  rd_J L ad → ∀ sz, MetFree l y (headSpec (.code y cc maxL rt :: TT) { frames := rm.1, cells := rm.2.2.1, slots := rm.2.2.2, locals := rm.2.1 }) (va_Pc av (rd_Pre D cl ty L ad M ss sz)) (fun _ _ _ _ _ => True) (fun _ st o t => rd_O D cl L ad M (rd_A L ad sz) rm.2.2.1 rm.2.2.2 post ex st o t)
/-- a body's goal -/
def rd_Z (below : List Frame) (O : State → Outcome → State → Prop) (s : State) : State → Prop := fun t => ∃ o, t.status = .running ∧ Ended t below o ∧ O s o t
theorem rd_nw {w : Cond} (hk : rd_nk w = true) {s U : State} (hW : s.WarmedH U.vm) (h : va_Nw w s) : va_Nw w U := by
  cases w <;> first | (simp [rd_nk] at hk; done) | exact va_Nw.warmC hW h | exact va_Nw.warmD hW h
theorem rd_nt {w : Cond} (hk : rd_nk w = true) : w.onTables = true := by
  cases w <;> first | rfl | (simp [rd_nk] at hk; done)
theorem rd_Th.go {ss : rd_SS} {A B : Nat → Prop} {s U : State} {H0 H : Heap} {locs : List Loc} (h : rd_Th ss A s H0) (hS : va_S A H0 H locs) (hB : ∀ q, B q → A q) (hW : s.WarmedH U.vm) : rd_Th ss B U H :=
  ⟨h.1.go hS.2.1 hB hW.alike, h.2.1.go hS.2.1 hB hW.alike, fun q hq => by
    obtain ⟨a, ha⟩ := h.2.2.1 q hq
    exact ⟨a, ha.warm hW⟩, fun w hw => ⟨(h.2.2.2.1 w hw).1, rd_nw (h.2.2.2.1 w hw).1 hW (h.2.2.2.1 w hw).2⟩, fun q hq => va_Nc.moved hW.alike (h.2.2.2.2 q hq)⟩
theorem rd_blind {D : va_G} {cl : List vw_C} {ty : List (ClassId × FieldType)} {L : rd_L} {ad : Nat → Nat} {M : rd_M} {ss : rd_SS} {sz : Nat} {av : List Value} : FrameBlind (va_Pc av (rd_Pre D cl ty L ad M ss sz)) := by
  intro a U g mk q
  obtain ⟨q0, q1, q2, q3, q4, q5, q6, q7, q8⟩ := q
  have hv : U.vm.Alike (U.calling g mk a).vm := Vm.Alike.refl U.vm
  exact ⟨q0, q1, q2, va_K.moved hv q3, q4.go (fun _ _ _ => rfl) (fun _ h => h) hv, q5.go (fun _ _ _ => rfl) (fun _ h => h) hv, fun x hx => by
    obtain ⟨b, hb⟩ := q6 x hx
    exact ⟨b, hb.same (u := U) (U := U.calling g mk a) rfl⟩, fun w hw => ⟨(q7 w hw).1, va_Nw.same (u := U) (U := U.calling g mk a) (rd_nt (q7 w hw).1) rfl (q7 w hw).2⟩, fun x hx => va_Nc.moved hv (q8 x hx)⟩
section RDB
variable {l : Launch} {y : MethodName} {cc : ByteArray} {maxL : Nat} {rt : Option FieldType} {rm : Nat × Nat × Nat × Nat} {TT : List Cond} {ss : rd_SS} {D : va_G} {cl : List vw_C} {ty : List (ClassId × FieldType)} {L : rd_L} {ad : Nat → Nat} {M : rd_M} {av : List Value} {post : Option Value → rd_M → Prop} {ex : String → Prop}
theorem rd_body (hy : plainName y.cls = true) (hav : (lg_sl av).length ≤ maxL)
    (body : ∀ (p : Program) (e : Env) (s : State) (m : MethodId) (below : List Frame) (meth : Method) (c : Code), rd_C p c cc maxL s m av.toArray y.cls TT D cl ty L ad (rd_A L ad s.heap.size) → meth.locks = false → meth.sig.returnType = rt → (∀ x ∈ c.exceptionTable.toList, False) → rd_Th ss (rd_A L ad s.heap.size) s s.heap → rd_W D cl L ad (rd_A L ad s.heap.size) s.heap M s.heap [] → ∀ ls : Array Slot, lv_has ls maxL (lv_args 0 av) →
      W p l e { frames := rm.1, cells := rm.2.2.1, slots := rm.2.2.2, locals := rm.2.1 } s m av.toArray below meth c s.heap [] 0 0 (rd_Z below (rd_O D cl L ad M (rd_A L ad s.heap.size) rm.2.2.1 rm.2.2.2 post ex) s) (F0 m 0 ls [])) : rd_Met l y cc maxL rt rm TT ss D cl ty L ad M av post ex := by
  intro hJ sz
  refine MetFree.of_bodyS (code := cc) (maxLocals := maxL) (ret := rt) hy ?_ ?_
  · intro args s m h hn
    obtain ⟨meth, c, h1, h2, h3, h4, h5, h6, -, -⟩ := Cond.code_spec hn (atoms_spec (ws := Cond.code y cc maxL rt :: TT) h _ List.mem_cons_self)
    exact ⟨meth, c, h1, h2, h3, h4, h5, h6⟩
  intro p e s m args below meth c s₁ B hml hv _
  obtain ⟨rfl, hsz, hP, hK, hTh⟩ := hv
  subst hsz
  have hts : ∀ w ∈ (Cond.code y cc maxL rt :: TT), w.before av.toArray s = true := atoms_spec (ws := Cond.code y cc maxL rt :: TT) B.pre
  have hnt : ∀ x ∈ c.exceptionTable.toList, False := by
    obtain ⟨m9, c9, h1, h2, -, -, -, -, h7, -⟩ := Cond.code_spec B.named (hts _ List.mem_cons_self)
    cases Option.some.inj (h1.symm.trans B.method)
    cases Option.some.inj (h2.symm.trans (Stand.of_body B).code)
    intro x hx
    rw [Array.isEmpty_iff.mp h7] at hx
    cases hx
  have hl := lv_entry av (n := maxL) hav
  have hh : s₁.heap = s.heap := by rw [B.state]; rfl
  have key := body p e s m below meth c ⟨⟨B.exec, B.bytes, hml, findClass_of_methodNamed B.named, fun w h => hts w (List.mem_cons_of_mem _ h)⟩, hK, hJ, fun k hk => Or.inl ⟨k, hk, rfl⟩, fun q h => Or.inr h⟩ B.notSynchronized B.returns hnt hTh ⟨hP, va_S.rf⟩ _ hl
  rw [← lg_entry_eq] at key
  obtain ⟨t, a1, o, b1, b2, b3⟩ := key s₁ hh (Stand.of_body B)
  exact ⟨t, o, a1, b1, b2, b3⟩
end RDB
section RDR
variable {p : Program} {l : Launch} {e : Env} {R : Room} {s : State} {m : MethodId} {args : Array Value} {below : List Frame} {meth : Method} {c : Code} {H : Heap} {locs : List Loc} {cells slots : Nat} {Q : State → Prop}
variable {cc : ByteArray} {nL : Nat} {own : String} {TT : List Cond} {D : va_G} {cl : List vw_C} {ty : List (ClassId × FieldType)} {L : rd_L} {ad : Nat → Nat} {A : Nat → Prop} {M M0 : rd_M} {pc : Nat} {ls : Array Slot} {rest : List Value}
variable {post : Option Value → rd_M → Prop} {ex : String → Prop} {mc ms : Nat}
/-- the end of a method that has come to a return: MQ with these words is a body's goal -/
theorem rd_fin {g : JFrame} {r : Option Value} (k : W p l e R s m args below meth c H locs mc ms (MQ below (fun _ st o t => o = .returned r ∧ va_F A st t ∧ post r M ∧ va_P D cl (rd_ws L ad M) t.heap) args s mc ms A) g) : W p l e R s m args below meth c H locs mc ms (rd_Z below (rd_O D cl L ad M0 A mc ms post ex) s) g := by
  intro T hT X
  obtain ⟨t, a1, o, b1, b2, ⟨b3, b4, b5, b6⟩, Lc, ⟨-, b7, b8⟩, b9⟩ := k T hT X
  exact ⟨t, a1, o, b1, b2, b4, b7, ⟨Lc, b8, b9⟩, Or.inl ⟨r, M, b3, b5, b6⟩⟩
theorem rd_iret (C9 : rd_C p c cc nL s m args own TT D cl ty L ad A) (hlk : meth.locks = false) (hr : meth.sig.returnType = some .int) (hW : rd_W D cl L ad A s.heap M H locs) {v : Int32} (hp : post (some (.int v)) M) (hc : cells ≤ mc) (hs : slots ≤ ms) (hdg : decode cc pc = .ok (.ireturn, 1)) :
    W p l e R s m args below meth c H locs cells slots (rd_Z below (rd_O D cl L ad M0 A mc ms post ex) s) (F0 m pc ls [.int v]) :=
  W.widen hc hs (rd_fin (W.iret C9.1.1 C9.1.2.1 hr (fun t ht _ => ⟨rfl, hW.2.F ht, hp, by rw [ht]; exact hW.1⟩) hW.2.2.2 hdg hlk))
theorem rd_zret (C9 : rd_C p c cc nL s m args own TT D cl ty L ad A) (hlk : meth.locks = false) (hr : meth.sig.returnType = some .boolean) (hW : rd_W D cl L ad A s.heap M H locs) {v : Int32} (hv : v = 0 ∨ v = 1) (hp : post (some (.int v)) M) (hc : cells ≤ mc) (hs : slots ≤ ms) (hdg : decode cc pc = .ok (.ireturn, 1)) :
    W p l e R s m args below meth c H locs cells slots (rd_Z below (rd_O D cl L ad M0 A mc ms post ex) s) (F0 m pc ls [.int v]) :=
  W.widen hc hs (rd_fin (W.zret C9.1.1 C9.1.2.1 hr (by rcases hv with rfl | rfl <;> rfl) (fun t ht _ => ⟨rfl, hW.2.F ht, hp, by rw [ht]; exact hW.1⟩) hW.2.2.2 hdg hlk))
theorem rd_vret (C9 : rd_C p c cc nL s m args own TT D cl ty L ad A) (hlk : meth.locks = false) (hr : meth.sig.returnType = none) (hW : rd_W D cl L ad A s.heap M H locs) (hp : post none M) (hc : cells ≤ mc) (hs : slots ≤ ms) (hdg : decode cc pc = .ok (.return_, 1)) :
    W p l e R s m args below meth c H locs cells slots (rd_Z below (rd_O D cl L ad M0 A mc ms post ex) s) (F0 m pc ls []) :=
  W.widen hc hs (rd_fin (W.vret C9.1.1 C9.1.2.1 hr (fun t ht _ => ⟨rfl, hW.2.F ht, hp, by rw [ht]; exact hW.1⟩) hW.2.2.2 hdg hlk))
theorem rd_lret (C9 : rd_C p c cc nL s m args own TT D cl ty L ad A) (hlk : meth.locks = false) (hr : meth.sig.returnType = some .long) (hW : rd_W D cl L ad A s.heap M H locs) {v : Int64} (hp : post (some (.long v)) M) (hc : cells ≤ mc) (hs : slots ≤ ms) (hdg : decode cc pc = .ok (.lreturn, 1)) :
    W p l e R s m args below meth c H locs cells slots (rd_Z below (rd_O D cl L ad M0 A mc ms post ex) s) (F0 m pc ls [.long v]) :=
  W.widen hc hs (rd_fin (W.lret C9.1.1 C9.1.2.1 hr (fun t ht _ => ⟨rfl, hW.2.F ht, hp, by rw [ht]; exact hW.1⟩) hW.2.2.2 hdg hlk))
theorem rd_dret (C9 : rd_C p c cc nL s m args own TT D cl ty L ad A) (hlk : meth.locks = false) (hr : meth.sig.returnType = some .double) (hW : rd_W D cl L ad A s.heap M H locs) {v : UInt64} (hp : post (some (.double v)) M) (hc : cells ≤ mc) (hs : slots ≤ ms) (hdg : decode cc pc = .ok (.dreturn, 1)) :
    W p l e R s m args below meth c H locs cells slots (rd_Z below (rd_O D cl L ad M0 A mc ms post ex) s) (F0 m pc ls [.double v]) :=
  W.widen hc hs (rd_fin (W.dret C9.1.1 C9.1.2.1 hr (fun t ht _ => ⟨rfl, hW.2.F ht, hp, by rw [ht]; exact hW.1⟩) hW.2.2.2 hdg hlk))
theorem rd_aret (C9 : rd_C p c cc nL s m args own TT D cl ty L ad A) (hlk : meth.locks = false) {nm : String} (hr : meth.sig.returnType = some (.object nm)) (hW : rd_W D cl L ad A s.heap M H locs) {a : Nat} (hp : post (some (.ref a)) M) (hc : cells ≤ mc) (hs : slots ≤ ms) (hdg : decode cc pc = .ok (.areturn, 1)) :
    W p l e R s m args below meth c H locs cells slots (rd_Z below (rd_O D cl L ad M0 A mc ms post ex) s) (F0 m pc ls [.ref a]) :=
  W.widen hc hs (rd_fin (W.aret C9.1.1 C9.1.2.1 hr (Or.inl ⟨_, rfl⟩) (Or.inr ⟨_, rfl⟩) (fun t ht _ => ⟨rfl, hW.2.F ht, hp, by rw [ht]; exact hW.1⟩) hW.2.2.2 hdg hlk))
/-- the frame g, with q thrown over it, comes to a state with Q -/
def rd_Tw (p : Program) (l : Launch) (e : Env) (R : Room) (s : State) (m : MethodId) (args : Array Value) (below : List Frame) (meth : Method) (c : Code) (H : Heap) (locs : List Loc) (cells slots : Nat) (Q : State → Prop) (g : JFrame) (q : Addr) : Prop :=
  ∀ T : State, T.heap = H → Stand p l e R s m args below meth c T locs cells slots → ∃ t, Steps p.tables e below ((T.setTop g).pushFrame (.throwing q)) t ∧ Q t
/-- thrown by a callee, and no row of this method's table: on to the caller -/
theorem rd_out {E : String} {ce : Cell} {q : Addr} (hnt : ∀ x ∈ c.exceptionTable.toList, False) (hlk : meth.locks = false) (hW : rd_W D cl L ad A s.heap M H locs) (hex : ex E) (hcell : H[q]? = some ce) (hv : ce.vm = .none) (hcl : s.vm.findClass E = some ce.cls) (hc : cells ≤ mc) (hs : slots ≤ ms) :
    rd_Tw p l e R s m args below meth c H locs cells slots (rd_Z below (rd_O D cl L ad M A mc ms post ex) s) (F0 m pc ls rest) q := by
  intro T hT X
  obtain ⟨h1, h2, h3, h4, h5⟩ := X.leaveThrown q (g := F0 m pc ls rest) rfl rfl rfl (fun x hx => (hnt x hx).elim) hlk
  exact ⟨_, h1, .threw q, h2, h3, hW.2.F hT, h4, ⟨locs, h5.mono hc hs, hW.2.2.2⟩, Or.inr ⟨q, E, ce, rfl, hex, by show va_P D cl (rd_ws L ad M) T.heap; rw [hT]; exact hW.1, by show T.heap[q]? = some ce; rw [hT]; exact hcell, hv, hcl⟩⟩
end RDR
