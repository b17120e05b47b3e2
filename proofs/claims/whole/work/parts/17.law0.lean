/-! methods with an exception table -/
section RDKW
variable {p : Program} {l : Launch} {e : Env} {R : Room} {s : State} {m : MethodId} {args : Array Value} {below : List Frame} {meth : Method} {c : Code}
/-- from 'doInvoke' of a callee on: it comes back behind the instruction, or q is thrown over g -/
theorem rd_coreW {y : MethodName} {ws : List Cond} {rm : Room} {Pc : Array Value → State → Prop} {O : State → Outcome → State → Prop} {bytes : ByteArray} {maxL : Nat} {ret : Option FieldType} {hh : List (Nat × Nat × Nat × Nat)}
    (hM : MetFree l y (headSpec ws rm) Pc (fun _ _ _ _ _ => True) (fun _ st o t => O st o t)) (hbl : FrameBlind Pc)
    (hO : ∀ st o t, O st o t → st.WarmedH t.vm ∧ (∃ Lc, st.sameButNew ({ t with vm := st.vm } : State) Lc rm.cells rm.slots) ∧ ((∃ v, o = .returned v) ∨ ∃ q, o = .threw q))
    (hfr : rm.frames + 1 ≤ R.frames) (hlo : 8 + (maxL + 11) + rm.locals ≤ R.locals)
    (hws : ∀ w ∈ ws, ∀ (a : Array Value) (U : State), s.WarmedH U.vm → w.before a U = true) (hcode : Cond.codeWith y bytes maxL ret hh ∈ ws) (hini : ∀ (a : Array Value) (U : State), s.WarmedH U.vm → (Cond.initialized y.cls).before a U = true)
    {U : State} {Ls : List Loc} {c0 s0 : Nat} (X : Stand p l e R s m args below meth c U Ls c0 s0) {g : JFrame} (hg : g.method = m) (hsize : g.locals.size = c.maxLocals) {ig : Instr} (hdg : decode c.code g.pc = .ok (ig, 3)) (h8 : 2 * g.monitorRoom + (g.stack.map fun v => v.category).sum ≤ 8)
    {mk : MethodId} (hn : U.methodNamed? y = some mk) {a : Array Value} (hP : Pc a U) (hc : c0 + rm.cells ≤ R.cells) (hs : s0 + rm.slots ≤ R.slots) :
    ∃ (o : Outcome) (t T' : State), O (U.calling g mk a) o t ∧ T'.heap = t.heap ∧ T'.vm = t.vm ∧ (∀ Lc, (U.calling g mk a).sameButNew ({ t with vm := (U.calling g mk a).vm } : State) Lc rm.cells rm.slots → Stand p l e R s m args below meth c T' (Ls ++ Lc) (c0 + rm.cells) (s0 + rm.slots)) ∧
      (∀ v, o = .returned v → Steps p.tables e below (doInvoke e (U.setTop g) [] mk a).1 (T'.setTop { g with pc := g.pc + 3, stack := v.toList ++ g.stack })) ∧
      (∀ q, o = .threw q → Steps p.tables e below (doInvoke e (U.setTop g) [] mk a).1 ((T'.setTop g).pushFrame (.throwing q))) := by
  have h2 : (Cond.codeWith y bytes maxL ret hh).before a U = true := hws _ hcode _ _ X.warmed
  obtain ⟨m9, methY, cY, hn9, hmY, hcY, -, hlY, -, -, -, -⟩ := Cond.codeWith_spec h2
  cases Option.some.inj (hn9.symm.trans hn)
  obtain ⟨kY, hkY, -⟩ := className_of_methodNamed hn
  have hinitY : kY.init = .initialized := Cond.initialized_spec (findClass_of_methodNamed hn) hkY (hini a U X.warmed)
  have h : At U g.method c below := by rw [hg]; exact X.here
  have happ : (headSpec ws rm).appliesLoose y e.platform (U.calling g mk a) = true :=
    Spec.appliesLoose_calling (g := g) h hdg hn hkY hinitY
      (X.room_calling (g := g) (R' := rm) hsize hmY hcY hfr (by rw [hlY]; omega) hc hs) (atoms_intro fun w hw => hws w hw _ _ X.warmed)
  obtain ⟨mid, hmid⟩ := h.above
  have hf : (U.setTop g).frames = (.java g :: mid) ++ below := by rw [State.frames_setTop' g h.top, hmid]; rfl
  obtain ⟨o, t, hsteps, -, hend, hq⟩ := Steps.callFree hM p X.admits X.cas X.clock (acts := []) hf happ (hbl _ _ _ _ hP) trivial
  rw [State.frames_setTop' g h.top] at hend
  have hq' : O (U.calling g mk a) o t := hq
  obtain ⟨hW, ⟨Lc, hsm⟩, -⟩ := hO _ _ _ hq'
  have hW' : U.WarmedH t.vm := hW
  obtain ⟨-, et⟩ := rd_same X hW' hsm
  obtain ⟨g₀, hg0⟩ := Option.isSome_iff_exists.mp h.top
  obtain ⟨r, hr⟩ := State.topJava?_eq_some.mp hg0
  have hr' : (({ U with heap := t.heap, slotsUsed := t.slotsUsed } : State).setVm t.vm).frames = .java g₀ :: r := hr
  refine ⟨o, t, ({ U with heap := t.heap, slotsUsed := t.slotsUsed } : State).setVm t.vm, hq', rfl, rfl, fun Lc h9 => (rd_same X hW' h9).1, ?_, ?_⟩
  · intro v ho
    subst ho
    obtain ⟨c₂, i₂, len₂, hc₂, hd₂, hf₂⟩ := hend
    have hcc : c₂ = c := by
      have h1 : t.code? g.method = U.code? g.method := by
        rw [State.code?_eq, State.code?_eq, hW'.alike.method?]
      exact Option.some.inj (hc₂.symm.trans (h1.trans h.code))
    subst hcc
    have hlen : len₂ = 3 := by rw [hdg] at hd₂; cases hd₂; rfl
    subst hlen
    have e9 : t = (({ U with heap := t.heap, slotsUsed := t.slotsUsed } : State).setVm t.vm).setTop { g with pc := g.pc + 3, stack := v.toList ++ g.stack } := by
      refine et.trans ?_
      rw [hf₂, State.setTop_of_frames _ hr', hr]
      rfl
    rw [← e9]
    exact hsteps
  · intro q ho
    subst ho
    have hf₂ : t.frames = .throwing q :: .java g :: U.frames.tail := hend
    have e9 : t = ((({ U with heap := t.heap, slotsUsed := t.slotsUsed } : State).setVm t.vm).setTop g).pushFrame (.throwing q) := by
      refine et.trans ?_
      rw [hf₂, State.pushFrame, State.frames_setTop _ hr', State.setTop_of_frames _ hr', State.setFrames_setFrames, hr]
      rfl
    rw [← e9]
    exact hsteps
end RDKW
/-- rm: frames, locals, cells, slots -/
def rd_MetW (l : Launch) (y : MethodName) (cc : ByteArray) (maxL : Nat) (rt : Option FieldType) (hh : List (Nat × Nat × Nat × Nat)) (rm : Nat × Nat × Nat × Nat) (TT : List Cond) (ss : rd_SS) (D : va_G) (cl : List vw_C) (ty : List (ClassId × FieldType)) (L : rd_L) (ad : Nat → Nat) (M : rd_M) (av : List Value) (post : Option Value → rd_M → Prop) (ex : String → Prop) : Prop :=
  rd_J L ad → ∀ sz, MetFree l y (headSpec (.codeWith y cc maxL rt hh :: TT) { frames := rm.1, cells := rm.2.2.1, slots := rm.2.2.2, locals := rm.2.1 }) (va_Pc av (rd_Pre D cl ty L ad M ss sz)) (fun _ _ _ _ _ => True) (fun _ st o t => rd_O D cl L ad M (rd_A L ad sz) rm.2.2.1 rm.2.2.2 post ex st o t)
section RDBW
variable {l : Launch} {y : MethodName} {cc : ByteArray} {maxL : Nat} {rt : Option FieldType} {hh : List (Nat × Nat × Nat × Nat)} {rm : Nat × Nat × Nat × Nat} {TT : List Cond} {ss : rd_SS} {D : va_G} {cl : List vw_C} {ty : List (ClassId × FieldType)} {L : rd_L} {ad : Nat → Nat} {M : rd_M} {av : List Value} {post : Option Value → rd_M → Prop} {ex : String → Prop}
theorem rd_bodyW (hy : plainName y.cls = true) (hav : (lg_sl av).length ≤ maxL)
    (body : ∀ (p : Program) (e : Env) (s : State) (m : MethodId) (below : List Frame) (meth : Method) (c : Code), rd_C p c cc maxL s m av.toArray y.cls TT D cl ty L ad (rd_A L ad s.heap.size) → meth.locks = false → meth.sig.returnType = rt → c.exceptionTable.toList.map (fun x => (x.startPc, x.endPc, x.handlerPc, x.catchType)) = hh → rd_Th ss (rd_A L ad s.heap.size) s s.heap → rd_W D cl L ad (rd_A L ad s.heap.size) s.heap M s.heap [] → ∀ ls : Array Slot, lv_has ls maxL (lv_args 0 av) →
      W p l e { frames := rm.1, cells := rm.2.2.1, slots := rm.2.2.2, locals := rm.2.1 } s m av.toArray below meth c s.heap [] 0 0 (rd_Z below (rd_O D cl L ad M (rd_A L ad s.heap.size) rm.2.2.1 rm.2.2.2 post ex) s) (F0 m 0 ls [])) : rd_MetW l y cc maxL rt hh rm TT ss D cl ty L ad M av post ex := by
  intro hJ sz
  refine MetFree.of_bodyS (code := cc) (maxLocals := maxL) (ret := rt) hy ?_ ?_
  · intro args s m h hn
    obtain ⟨m9, meth, c, hn9, h1, h2, h3, h4, -, h5, h6, -⟩ := Cond.codeWith_spec (atoms_spec (ws := Cond.codeWith y cc maxL rt hh :: TT) h _ List.mem_cons_self)
    cases Option.some.inj (hn9.symm.trans hn)
    exact ⟨meth, c, h1, h2, h3, h4, h5, h6⟩
  intro p e s m args below meth c s₁ B hml hv _
  obtain ⟨rfl, hsz, hP, hK, hTh⟩ := hv
  subst hsz
  have hts : ∀ w ∈ (Cond.codeWith y cc maxL rt hh :: TT), w.before av.toArray s = true := atoms_spec (ws := Cond.codeWith y cc maxL rt hh :: TT) B.pre
  have hnt : c.exceptionTable.toList.map (fun x => (x.startPc, x.endPc, x.handlerPc, x.catchType)) = hh := by
    obtain ⟨m9, meth9, c9, hn9, h1, h2, -, -, h6, -⟩ := Cond.codeWith_spec (hts _ List.mem_cons_self)
    cases Option.some.inj (hn9.symm.trans B.named)
    cases Option.some.inj (h1.symm.trans B.method)
    cases Option.some.inj (h2.symm.trans (Stand.of_body B).code)
    exact h6
  have hl := lv_entry av (n := maxL) hav
  have hh : s₁.heap = s.heap := by rw [B.state]; rfl
  have key := body p e s m below meth c ⟨⟨B.exec, B.bytes, hml, findClass_of_methodNamed B.named, fun w h => hts w (List.mem_cons_of_mem _ h)⟩, hK, hJ, fun k hk => Or.inl ⟨k, hk, rfl⟩, fun q h => Or.inr h⟩ B.notSynchronized B.returns hnt hTh ⟨hP, va_S.rf⟩ _ hl
  rw [← lg_entry_eq] at key
  obtain ⟨t, a1, o, b1, b2, b3⟩ := key s₁ hh (Stand.of_body B)
  exact ⟨t, o, a1, b1, b2, b3⟩
end RDBW
section RDCW
variable {p : Program} {l : Launch} {e : Env} {R : Room} {s : State} {m : MethodId} {args : Array Value} {below : List Frame} {meth : Method} {c : Code} {H : Heap} {locs : List Loc} {cells slots : Nat} {Q : State → Prop}
variable {cc bytes : ByteArray} {nL maxL n index : Nat} {rt : Option FieldType} {hh : List (Nat × Nat × Nat × Nat)} {rm : Nat × Nat × Nat × Nat} {own : String} {TT : List Cond} {ss : rd_SS} {D : va_G} {cl : List vw_C} {ty : List (ClassId × FieldType)} {L : rd_L} {ad : Nat → Nat} {A : Nat → Prop} {M : rd_M} {pc : Nat} {ls : Array Slot} {st rest As : List Value} {y : MethodName}
variable {post : Option Value → rd_M → Prop} {ex : String → Prop}
theorem rd_paysW (hg : TT.all goodWord = true) (hts : ∀ w ∈ TT, w.before args s = true) (hc : Cond.codeWith y bytes maxL rt hh ∈ TT) : ∀ w ∈ (Cond.codeWith y bytes maxL rt hh :: TT), ∀ (a : Array Value) (U : State), s.WarmedH U.vm → w.before a U = true := by
  refine pay_in hts fun w hw => ?_
  have h1 : w ∈ TT := by
    rcases List.mem_cons.mp hw with h | h
    · rw [h]; exact hc
    · exact h
  exact ⟨h1, good_of_word (List.all_eq_true.mp hg w h1)⟩
theorem rd_callSW (hg : TT.all goodWord = true) (C9 : rd_C p c cc nL s m args own TT D cl ty L ad A) (hTh : rd_Th ss A s s.heap) (hW : rd_W D cl L ad A s.heap M H locs) (hM : rd_MetW l y bytes maxL rt hh rm TT ss D cl ty L ad M As post ex) (kc : Cond.codeWith y bytes maxL rt hh ∈ TT ∧ Cond.initialized y.cls ∈ TT ∧ (y.cls ≠ "java/lang/invoke/MethodHandle" ∧ y.cls ≠ "java/lang/invoke/VarHandle") ∧ (parseMethodDescriptor y.desc).map (fun d => d.parameters.length) = some n) (ki : Cond.static y ∈ TT) (hl : Cond.methodLink own index y ∈ TT) (hn : As.length = n)
    (hR : rm.1 + 1 ≤ R.frames ∧ 8 + (maxL + 11) + rm.2.1 ≤ R.locals) (hf : cells + rm.2.2.1 ≤ R.cells ∧ slots + rm.2.2.2 ≤ R.slots) (hsz : ls.size = nL) (hst : st = As.reverse ++ rest) (hr8 : (rest.map fun v => v.category).sum ≤ 8) (hdg : decode cc pc = .ok (.invokestatic index, 3))
    (kx : ∀ (E : String) (ce : Cell) (q9 : Addr) (H1 : Heap) (locs1 : List Loc), ex E → rd_W D cl L ad A s.heap M H1 locs1 → H1[q9]? = some ce → ce.vm = .none → s.vm.findClass E = some ce.cls → rd_Tw p l e R s m args below meth c H1 locs1 (cells + rm.2.2.1) (slots + rm.2.2.2) Q (F0 m pc ls rest) q9)
    (kk : ∀ (r : Option Value) (M1 : rd_M) (H1 : Heap) (locs1 : List Loc), post r M1 → rd_W D cl L ad A s.heap M1 H1 locs1 → W p l e R s m args below meth c H1 locs1 (cells + rm.2.2.1) (slots + rm.2.2.2) Q (F0 m (pc + 3) ls (r.toList ++ rest))) : W p l e R s m args below meth c H locs cells slots Q (F0 m pc ls st) := by
  obtain ⟨hx, hb, hml, hown, hts⟩ := C9.1
  intro T9 hT X
  obtain ⟨mk, methM, cM, hnamed, hmethM, -, -, -, -, -, -, hsigM⟩ := Cond.codeWith_spec (hts _ kc.1)
  have hstatic : methM.isStatic = true := Cond.static_spec hnamed hmethM (hts _ ki)
  obtain ⟨kP, hkP, -⟩ := className_of_methodNamed hnamed
  have hinitP : kP.init = .initialized := Cond.initialized_spec (findClass_of_methodNamed hnamed) hkP (hts _ kc.2.1)
  have hlen : As.length = methM.sig.parameters.length := by
    have h9 := kc.2.2.2
    rw [hsigM] at h9
    exact hn.trans (Option.some.inj h9).symm
  obtain ⟨vm₁, X₁, hstep₁⟩ := X.invokestatic hx hown (hts _ hl) hnamed hmethM hstatic hkP hinitP kc.2.2.1 (g := F0 m pc ls st) rfl (argsL := As) (rest := rest) hlen hst (by rw [hb]; exact hdg)
  refine rd_on C9 hW (U := T9.setVm vm₁) (gb := F0 m pc ls rest) (mk := mk) (a := As.toArray) hT X₁.warmed.alike (fun E k h => by rw [← X₁.warmed.alike.findClass]; exact h) (fun target h => hstep₁ _ fun acts => by rw [doInvoke_state]; exact h) ?_ kx kk
  exact rd_coreW (hM C9.2.2.1 H.size) rd_blind (fun _ _ _ h => rd_OW h) hR.1 hR.2 (rd_paysW hg hts kc.1) List.mem_cons_self (fun a U h => pay_in hts (fun w hw => ⟨hw, good_of_word (List.all_eq_true.mp hg w hw)⟩) _ kc.2.1 a U h) X₁ (g := F0 m pc ls rest) rfl (hsz.trans hml.symm) (ig := .invokestatic index) (by rw [hb]; exact hdg) (lv_room hr8) (X₁.named hnamed) ⟨rfl, rd_pre C9 hTh hW hT X₁.warmed⟩ hf.1 hf.2
end RDCW
theorem rd_caughtP {p : Program} {l : Launch} {e : Env} {R : Room} {s : State} {m : MethodId} {args : Array Value} {below : List Frame} {meth : Method} {c : Code} {H : Heap} {locs : List Loc} {cells slots : Nat} {Q : State → Prop} {pc h : Nat} {ls : Array Slot} {rest : List Value} {E : String} {ce : Cell} {q : Addr} (hcell : H[q]? = some ce) (hv : ce.vm = .none) (hcl : s.vm.findClass E = some ce.cls) (hr : e.platform.magicAccessors = ({} : Platform).magicAccessors → rd_rows e s m.cls pc ce.cls h (c.exceptionTable.toList.map fun x => (x.startPc, x.endPc, x.handlerPc, x.catchType)))
    (kk : W p l e R s m args below meth c H locs cells slots Q (F0 m h ls [.ref q])) : rd_Tw p l e R s m args below meth c H locs cells slots Q (F0 m pc ls rest) q := fun T hT X => rd_caught hcell hv hcl (hr (by rw [X.admits.platform])) kk T hT X
/-- a row of the table that takes the thrown class, and one that doesn't -/
theorem rd_hit {e : Env} {s : State} {args : Array Value} {own E name : String} {oc th : ClassId} {i : Nat} (hpl : e.platform.magicAccessors = ({} : Platform).magicAccessors) (hown : s.vm.findClass own = some oc) (hl : (Cond.classLink own i name).before args s = true) (hc : va_Nw (.castable E name) s) (hth : s.vm.findClass E = some th) : ∃ c, s.vm.ClassLinks e.platform oc i c ∧ s.vm.assignable th c = true := by
  obtain ⟨c', hc', hcl⟩ := Cond.classLink_spec hown hl e.platform hpl
  obtain ⟨c3, c4, h3, h4, has⟩ := Cond.castable_spec hc
  cases Option.some.inj (h3.symm.trans hth)
  cases Option.some.inj (h4.symm.trans hc')
  exact ⟨c', hcl, has⟩
theorem rd_miss {e : Env} {s : State} {args : Array Value} {own E name : String} {oc th : ClassId} {i : Nat} (hpl : e.platform.magicAccessors = ({} : Platform).magicAccessors) (hown : s.vm.findClass own = some oc) (hl : (Cond.classLink own i name).before args s = true) (hc : va_Nc E name s) (hth : s.vm.findClass E = some th) : ∃ c, s.vm.ClassLinks e.platform oc i c ∧ s.vm.assignable th c = false := by
  obtain ⟨c', hc', hcl⟩ := Cond.classLink_spec hown hl e.platform hpl
  obtain ⟨c3, c4, h3, h4, has⟩ := hc
  cases Option.some.inj (h3.symm.trans hth)
  cases Option.some.inj (h4.symm.trans hc')
  exact ⟨c', hcl, has⟩
theorem rd_rH {e : Env} {s : State} {oc th : ClassId} {pc h a b i : Nat} {t : List (Nat × Nat × Nat × Nat)} (h1 : a ≤ pc) (h2 : pc < b) (h0 : i ≠ 0) (hh : ∃ c, s.vm.ClassLinks e.platform oc i c ∧ s.vm.assignable th c = true) : rd_rows e s oc pc th h ((a, b, h, i) :: t) := by
  obtain ⟨c, x, y⟩ := hh
  exact ⟨h1, h2, h0, c, x, Or.inl ⟨y, rfl⟩⟩
theorem rd_rM {e : Env} {s : State} {oc th : ClassId} {pc h a b i h9 : Nat} {t : List (Nat × Nat × Nat × Nat)} (h1 : a ≤ pc) (h2 : pc < b) (h0 : i ≠ 0) (hh : ∃ c, s.vm.ClassLinks e.platform oc i c ∧ s.vm.assignable th c = false) (ht : rd_rows e s oc pc th h t) : rd_rows e s oc pc th h ((a, b, h9, i) :: t) := by
  obtain ⟨c, x, y⟩ := hh
  exact ⟨h1, h2, h0, c, x, Or.inr ⟨y, ht⟩⟩
/-- an answer or an exception, both looked at -/
def rd_c {α β : Type} (x : Option (String ⊕ α)) (h : String → Option β) (f : α → Option β) : Option β := match x with
  | none => none
  | some (.inl E) => h E
  | some (.inr v) => f v
theorem rd_c_run {α β : Type} {x : Option (String ⊕ α)} {h : String → Option β} {f : α → Option β} {o : β} (hr : rd_c x h f = some o) : ∃ oc, x = some oc ∧ (∀ E, oc = .inl E → h E = some o) ∧ ∀ v, oc = .inr v → f v = some o := by
  match x, hr with
  | none, hr => cases hr
  | some (.inl E), hr => exact ⟨_, rfl, fun E' e => (by cases e; exact hr), fun v e => (by cases e)⟩
  | some (.inr v), hr => exact ⟨_, rfl, fun E' e => (by cases e), fun v' e => (by cases e; exact hr)⟩
/-! the law's cells: a desk, a reference, two rooms for an answer -/
def lw_c (Ka : Nat → ClassId) (ad : Nat → Nat) (k : Nat) (x : rd_Ce) : va_E :=
  if k < 117 then dk_c Ka ad k x
  else if k < 139 then rm_c Ka (fun i => ad (117 + i)) (k - 117) x
  else if k = 139 then .inl (Ka 1, 1, .inr (.inl x.2.1)) else .inl (Ka 2, 1, .inr (.inr (.inr (.inl x.2.2))))
def lw_L (Ka : Nat → ClassId) : rd_L := (141, lw_c Ka)
theorem lw_EK {Ka : Nat → ClassId} : rd_E (lw_L Ka) (dk_L Ka) 0 := by
  refine ⟨by show 0 + 117 ≤ 141; omega, fun ad k hk x => ?_⟩
  have hk : k < 117 := hk
  show lw_c Ka ad (0 + k) x = dk_c Ka (fun i => ad (0 + i)) k x
  unfold lw_c
  simp only [Nat.zero_add]
  rw [if_pos hk]
theorem lw_EN {Ka : Nat → ClassId} : rd_E (lw_L Ka) (rm_L Ka) 117 := by
  refine ⟨by show 117 + 22 ≤ 141; omega, fun ad k hk x => ?_⟩
  have hk : k < 22 := hk
  show lw_c Ka ad (117 + k) x = rm_c Ka (fun i => ad (117 + i)) k x
  unfold lw_c
  rw [if_neg (by omega), if_pos (by omega), show 117 + k - 117 = k by omega]
theorem ltA_out {Ka : Nat → ClassId} : 139 < (lw_L Ka).1 := by show 139 < 141; omega
theorem ltA_outD {Ka : Nat → ClassId} : 140 < (lw_L Ka).1 := by show 140 < 141; omega
theorem ceA_out {Ka : Nat → ClassId} {ad : Nat → Nat} {x : rd_Ce} : (lw_L Ka).2 ad 139 x = .inl (Ka 1, 1, .inr (.inl x.2.1)) := rfl
theorem ceA_outD {Ka : Nat → ClassId} {ad : Nat → Nat} {x : rd_Ce} : (lw_L Ka).2 ad 140 x = .inl (Ka 2, 1, .inr (.inr (.inr (.inl x.2.2)))) := rfl
section LWR
variable {p : Program} {l : Launch} {e : Env} {R : Room} {s : State} {m : MethodId} {args : Array Value} {below : List Frame} {meth : Method} {c : Code} {H : Heap} {locs : List Loc} {cells slots : Nat} {Q : State → Prop}
variable {cc : ByteArray} {nL : Nat} {own : String} {D : va_G} {Ka : Nat → ClassId} {ad : Nat → Nat} {A : Nat → Prop} {M : rd_M} {pc : Nat} {ls : Array Slot} {rest : List Value}
theorem al_out (C9 : rd_C p c cc nL s m args own rd_T D rd_cl (rd_ty Ka) (lw_L Ka) ad A) (hW : rd_W D rd_cl (lw_L Ka) ad A s.heap M H locs)  {x : Int32} {i : Nat} (hxi : x.toNatClampNeg = i) (hin : vp_in x 1) (hdg : decode cc pc = .ok (.laload, 1)) (kk : W p l e R s m args below meth c H locs cells slots Q (F0 m (pc + 1) ls (.long ((M (139)).2.1 i) :: rest))) : W p l e R s m args below meth c H locs cells slots Q (F0 m pc ls (.int x :: .ref (ad (139)) :: rest)) := rd_lald C9 hW (ltA_out) (ceA_out) (t0 := 1) rfl hxi hin hdg kk
theorem as_out (C9 : rd_C p c cc nL s m args own rd_T D rd_cl (rd_ty Ka) (lw_L Ka) ad A) (hW : rd_W D rd_cl (lw_L Ka) ad A s.heap M H locs)  {x : Int32} {i : Nat} (hxi : x.toNatClampNeg = i) (hin : vp_in x 1) {v : Int64} (hdg : decode cc pc = .ok (.lastore, 1)) (kk : ∀ (H1 : Heap) (locs1 : List Loc), rd_W D rd_cl (lw_L Ka) ad A s.heap (rd_lU M (139) i v) H1 locs1 → W p l e R s m args below meth c H1 locs1 cells slots Q (F0 m (pc + 1) ls rest)) : W p l e R s m args below meth c H locs cells slots Q (F0 m pc ls (.long v :: .int x :: .ref (ad (139)) :: rest)) := rd_last C9 hW (ltA_out) (ceA_out) (t0 := 1) rfl hxi hin (x := ((M (139)).1, va_up (M (139)).2.1 i v, (M (139)).2.2)) (by rw [ceA_out]; rfl) hdg kk
theorem al_outD (C9 : rd_C p c cc nL s m args own rd_T D rd_cl (rd_ty Ka) (lw_L Ka) ad A) (hW : rd_W D rd_cl (lw_L Ka) ad A s.heap M H locs)  {x : Int32} {i : Nat} (hxi : x.toNatClampNeg = i) (hin : vp_in x 1) (hdg : decode cc pc = .ok (.daload, 1)) (kk : W p l e R s m args below meth c H locs cells slots Q (F0 m (pc + 1) ls (.double ((M (140)).2.2 i) :: rest))) : W p l e R s m args below meth c H locs cells slots Q (F0 m pc ls (.int x :: .ref (ad (140)) :: rest)) := rd_dald C9 hW (ltA_outD) (ceA_outD) (t0 := 2) rfl hxi hin hdg kk
theorem as_outD (C9 : rd_C p c cc nL s m args own rd_T D rd_cl (rd_ty Ka) (lw_L Ka) ad A) (hW : rd_W D rd_cl (lw_L Ka) ad A s.heap M H locs)  {x : Int32} {i : Nat} (hxi : x.toNatClampNeg = i) (hin : vp_in x 1) {v : UInt64} (hdg : decode cc pc = .ok (.dastore, 1)) (kk : ∀ (H1 : Heap) (locs1 : List Loc), rd_W D rd_cl (lw_L Ka) ad A s.heap (rd_dU M (140) i v) H1 locs1 → W p l e R s m args below meth c H1 locs1 cells slots Q (F0 m (pc + 1) ls rest)) : W p l e R s m args below meth c H locs cells slots Q (F0 m pc ls (.double v :: .int x :: .ref (ad (140)) :: rest)) := rd_dast C9 hW (ltA_outD) (ceA_outD) (t0 := 2) rfl hxi hin (x := ((M (140)).1, (M (140)).2.1, va_up (M (140)).2.2 i v)) (by rw [ceA_outD]; rfl) hdg kk
end LWR
