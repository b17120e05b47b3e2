/-! calls: a callee by its contract returns or throws -/
section RDK
variable {p : Program} {l : Launch} {e : Env} {R : Room} {s : State} {m : MethodId} {args : Array Value} {below : List Frame} {meth : Method} {c : Code}
/-- a callee's own state, seen as the caller's with another heap and other tables -/
theorem rd_same {U t : State} {Ls : List Loc} {c0 s0 : Nat} (X : Stand p l e R s m args below meth c U Ls c0 s0) {g : JFrame} {mk : MethodId} {a : Array Value} {Lc : List Loc} {mc ms : Nat} (hW : U.WarmedH t.vm) (hsm : (U.calling g mk a).sameButNew ({ t with vm := (U.calling g mk a).vm } : State) Lc mc ms) :
    Stand p l e R s m args below meth c (({ U with heap := t.heap, slotsUsed := t.slotsUsed } : State).setVm t.vm) (Ls ++ Lc) (c0 + mc) (s0 + ms) ∧ t = (({ U with heap := t.heap, slotsUsed := t.slotsUsed } : State).setVm t.vm).setFrames t.frames := by
  obtain ⟨e2, q2, q3, q4, q5, q6⟩ := id hsm
  obtain ⟨g₀, hg0⟩ := Option.isSome_iff_exists.mp X.here.top
  obtain ⟨r, hr⟩ := State.topJava?_eq_some.mp hg0
  constructor
  · have hsame : U.sameButNew ({ U with heap := t.heap, slotsUsed := t.slotsUsed } : State) Lc mc ms := by
      refine ⟨?_, q2, q3, q4, q5, q6⟩
      obtain ⟨th, hth, -⟩ := State.frames_cons hr
      show ({ U with heap := t.heap, slotsUsed := t.slotsUsed } : State) = { U.setFrames U.frames with heap := t.heap, slotsUsed := t.slotsUsed }
      rw [State.setFrames_self hth]
    exact ⟨X.admits, X.cas, X.clock, X.frames, X.room, X.hears, X.method, X.code, (X.here.setHeapUsed t.heap t.slotsUsed).setVm hW.alike, X.tail, State.WarmedH.trans X.warmed hW, X.limits, X.bytes, X.same.trans (hsame.setVm s.vm)⟩
  · have e3 : t = ({ (U.calling g mk a).setFrames t.frames with heap := t.heap, slotsUsed := t.slotsUsed } : State).setVm t.vm := by
      have h : t = ({ t with vm := (U.calling g mk a).vm } : State).setVm t.vm := rfl
      rw [e2] at h
      exact h
    refine e3.trans ?_
    rw [State.calling_eq X.here.top, State.setFrames_setFrames]
    rfl
/-- from 'doInvoke' of a callee on: it comes back behind the instruction, or q is thrown over g -/
theorem rd_core {y : MethodName} {ws : List Cond} {rm : Room} {Pc : Array Value → State → Prop} {O : State → Outcome → State → Prop} {bytes : ByteArray} {maxL : Nat} {ret : Option FieldType}
    (hM : MetFree l y (headSpec ws rm) Pc (fun _ _ _ _ _ => True) (fun _ st o t => O st o t)) (hbl : FrameBlind Pc)
    (hO : ∀ st o t, O st o t → st.WarmedH t.vm ∧ (∃ Lc, st.sameButNew ({ t with vm := st.vm } : State) Lc rm.cells rm.slots) ∧ ((∃ v, o = .returned v) ∨ ∃ q, o = .threw q))
    (hfr : rm.frames + 1 ≤ R.frames) (hlo : 8 + (maxL + 11) + rm.locals ≤ R.locals)
    (hws : ∀ w ∈ ws, ∀ (a : Array Value) (U : State), s.WarmedH U.vm → w.before a U = true) (hcode : Cond.code y bytes maxL ret ∈ ws) (hini : ∀ (a : Array Value) (U : State), s.WarmedH U.vm → (Cond.initialized y.cls).before a U = true)
    {U : State} {Ls : List Loc} {c0 s0 : Nat} (X : Stand p l e R s m args below meth c U Ls c0 s0) {g : JFrame} (hg : g.method = m) (hsize : g.locals.size = c.maxLocals) {ig : Instr} (hdg : decode c.code g.pc = .ok (ig, 3)) (h8 : 2 * g.monitorRoom + (g.stack.map fun v => v.category).sum ≤ 8)
    {mk : MethodId} (hn : U.methodNamed? y = some mk) {a : Array Value} (hP : Pc a U) (hc : c0 + rm.cells ≤ R.cells) (hs : s0 + rm.slots ≤ R.slots) :
    ∃ (o : Outcome) (t T' : State), O (U.calling g mk a) o t ∧ T'.heap = t.heap ∧ T'.vm = t.vm ∧ (∀ Lc, (U.calling g mk a).sameButNew ({ t with vm := (U.calling g mk a).vm } : State) Lc rm.cells rm.slots → Stand p l e R s m args below meth c T' (Ls ++ Lc) (c0 + rm.cells) (s0 + rm.slots)) ∧
      (∀ v, o = .returned v → Steps p.tables e below (doInvoke e (U.setTop g) [] mk a).1 (T'.setTop { g with pc := g.pc + 3, stack := v.toList ++ g.stack })) ∧
      (∀ q, o = .threw q → Steps p.tables e below (doInvoke e (U.setTop g) [] mk a).1 ((T'.setTop g).pushFrame (.throwing q))) := by
  have h2 : (Cond.code y bytes maxL ret).before a U = true := hws _ hcode _ _ X.warmed
  obtain ⟨methY, cY, hmY, hcY, -, hlY, -, -, -, -⟩ := Cond.code_spec hn h2
  obtain ⟨kY, hkY, -⟩ := className_of_methodNamed hn
  have hinitY : kY.init = .initialized := Cond.initialized_spec (findClass_of_methodNamed hn) hkY (hini a U X.warmed)
  have h : At U g.method c below := by rw [hg]; exact X.here
  have happ : (headSpec ws rm).appliesLoose y e.platform (U.calling g mk a) = true :=
    Spec.appliesLoose_calling (g := g) h hdg hn hkY hinitY
      (X.room_calling (g := g) (R' := rm) hsize hmY hcY hfr (by rw [hlY]; omega) hc hs) (atoms_intro fun w hw => hws w hw _ _ X.warmed)
  obtain ⟨mid, hmid⟩ := h.above
  have hf : (U.setTop g).frames = (.java g :: mid) ++ below := by rw [State.frames_setTop' g h.top, hmid]; rfl
  obtain ⟨o, t, hsteps, -, hend, hq⟩ := Steps.callFree hM p X.admits X.cas X.clock (acts := []) hf happ (hbl _ _ _ _ hP) trivial
  rw [State.frames_setTop' g h.top] at hend
  have hq' : O (U.calling g mk a) o t := hq
  obtain ⟨hW, ⟨Lc, hsm⟩, -⟩ := hO _ _ _ hq'
  have hW' : U.WarmedH t.vm := hW
  obtain ⟨-, et⟩ := rd_same X hW' hsm
  obtain ⟨g₀, hg0⟩ := Option.isSome_iff_exists.mp h.top
  obtain ⟨r, hr⟩ := State.topJava?_eq_some.mp hg0
  have hr' : (({ U with heap := t.heap, slotsUsed := t.slotsUsed } : State).setVm t.vm).frames = .java g₀ :: r := hr
  refine ⟨o, t, ({ U with heap := t.heap, slotsUsed := t.slotsUsed } : State).setVm t.vm, hq', rfl, rfl, fun Lc h9 => (rd_same X hW' h9).1, ?_, ?_⟩
  · intro v ho
    subst ho
    obtain ⟨c₂, i₂, len₂, hc₂, hd₂, hf₂⟩ := hend
    have hcc : c₂ = c := by
      have h1 : t.code? g.method = U.code? g.method := by
        rw [State.code?_eq, State.code?_eq, hW'.alike.method?]
      exact Option.some.inj (hc₂.symm.trans (h1.trans h.code))
    subst hcc
    have hlen : len₂ = 3 := by rw [hdg] at hd₂; cases hd₂; rfl
    subst hlen
    have e9 : t = (({ U with heap := t.heap, slotsUsed := t.slotsUsed } : State).setVm t.vm).setTop { g with pc := g.pc + 3, stack := v.toList ++ g.stack } := by
      refine et.trans ?_
      rw [hf₂, State.setTop_of_frames _ hr', hr]
      rfl
    rw [← e9]
    exact hsteps
  · intro q ho
    subst ho
    have hf₂ : t.frames = .throwing q :: .java g :: U.frames.tail := hend
    have e9 : t = ((({ U with heap := t.heap, slotsUsed := t.slotsUsed } : State).setVm t.vm).setTop g).pushFrame (.throwing q) := by
      refine et.trans ?_
      rw [hf₂, State.pushFrame, State.frames_setTop _ hr', State.setTop_of_frames _ hr', State.setFrames_setFrames, hr]
      rfl
    rw [← e9]
    exact hsteps
end RDK
