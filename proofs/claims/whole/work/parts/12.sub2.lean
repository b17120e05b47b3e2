/-! a call of a method whose contract speaks of a part of the caller's cells -/
theorem rd_pm_self {n b : Nat} {M : rd_M} : rd_pm n b M (fun k => M (b + k)) = M := by
  funext k
  unfold rd_pm
  by_cases h : b ≤ k ∧ k < b + n
  · rw [if_pos h]
    show M (b + (k - b)) = M k
    rw [show b + (k - b) = k by omega]
  · rw [if_neg h]
section RDU
variable {p : Program} {l : Launch} {e : Env} {R : Room} {s : State} {m : MethodId} {args : Array Value} {below : List Frame} {meth : Method} {c : Code} {H : Heap} {locs : List Loc} {cells slots : Nat} {Q : State → Prop}
variable {cc bytes : ByteArray} {nL maxL n index : Nat} {rt : Option FieldType} {rm : Nat × Nat × Nat × Nat} {own : String} {TT : List Cond} {ss : rd_SS} {D : va_G} {cl : List vw_C} {ty : List (ClassId × FieldType)} {L L1 : rd_L} {b : Nat} {ad : Nat → Nat} {A : Nat → Prop} {M : rd_M} {pc : Nat} {ls : Array Slot} {st rest As : List Value} {y : MethodName}
variable {post : Option Value → rd_M → Prop} {ex : String → Prop}
theorem rd_onS (hE : rd_E L L1 b) (C9 : rd_C p c cc nL s m args own TT D cl ty L ad A) (hW : rd_W D cl L ad A s.heap M H locs) {mc ms : Nat} {T U : State} {g : JFrame} {mk : MethodId} {a : Array Value} {gb : JFrame}
    (hU : U.heap = H) (hcl : ∀ E k, U.vm.findClass E = some k → s.vm.findClass E = some k)
    (hgo : ∀ target, Steps p.tables e below (doInvoke e (U.setTop gb) [] mk a).1 target → Steps p.tables e below (T.setTop g) target)
    (core : ∃ (o : Outcome) (t T' : State), rd_O D cl L1 (fun i => ad (b + i)) (fun k => M (b + k)) (rd_A L1 (fun i => ad (b + i)) H.size) mc ms post ex (U.calling gb mk a) o t ∧ T'.heap = t.heap ∧ T'.vm = t.vm ∧ (∀ Lc, (U.calling gb mk a).sameButNew ({ t with vm := (U.calling gb mk a).vm } : State) Lc mc ms → Stand p l e R s m args below meth c T' (locs ++ Lc) (cells + mc) (slots + ms)) ∧
      (∀ v, o = .returned v → Steps p.tables e below (doInvoke e (U.setTop gb) [] mk a).1 (T'.setTop { gb with pc := gb.pc + 3, stack := v.toList ++ gb.stack })) ∧
      (∀ q, o = .threw q → Steps p.tables e below (doInvoke e (U.setTop gb) [] mk a).1 ((T'.setTop gb).pushFrame (.throwing q))))
    (kx : ∀ (E : String) (ce : Cell) (q9 : Addr) (H1 : Heap) (locs1 : List Loc), ex E → rd_W D cl L ad A s.heap M H1 locs1 → H1[q9]? = some ce → ce.vm = .none → s.vm.findClass E = some ce.cls → rd_Tw p l e R s m args below meth c H1 locs1 (cells + mc) (slots + ms) Q gb q9)
    (kk : ∀ (r : Option Value) (M1 : rd_M) (H1 : Heap) (locs1 : List Loc), post r M1 → rd_W D cl L ad A s.heap (rd_pm L1.1 b M M1) H1 locs1 → W p l e R s m args below meth c H1 locs1 (cells + mc) (slots + ms) Q { gb with pc := gb.pc + 3, stack := r.toList ++ gb.stack }) : ∃ t, Steps p.tables e below (T.setTop g) t ∧ Q t := by
  obtain ⟨-, -, hJ, hA, hA2⟩ := C9
  have hf : ∀ q, rd_A L1 (fun i => ad (b + i)) H.size q → A q := by
    intro q h
    rcases h with ⟨k, hk, rfl⟩ | h
    · exact hA (b + k) (by have := hE.1; omega)
    · exact hA2 q (Nat.le_trans hW.2.1 h)
  obtain ⟨o, t, T', ⟨hF, -, ⟨Lc, hsm, hL⟩, hend⟩, e1, e2, hst, hret, hthr⟩ := core
  have hF1 : H.size ≤ t.heap.size := by have h9 := hF.1; rw [show (U.calling gb mk a).heap = H from hU] at h9; exact h9
  have hF2 : ∀ q : Nat, q < H.size → ¬ rd_A L1 (fun i => ad (b + i)) H.size q → t.heap[q]? = H[q]? := by have h9 := hF.2; rw [show (U.calling gb mk a).heap = H from hU] at h9; exact h9
  have hS : va_S A s.heap T'.heap (locs ++ Lc) := by
    rw [e1]
    refine ⟨Nat.le_trans hW.2.1 hF1, fun q h1 h2 => ?_, fun q hq => ?_⟩
    · rw [hF2 q (Nat.lt_of_lt_of_le h1 hW.2.1) (fun z => h2 (hf q z))]
      exact hW.2.2.1 q h1 h2
    · rcases List.mem_append.mp hq with h | h
      · exact hW.2.2.2 q h
      · exact hf _ (hL q h)
  rcases hend with ⟨r, M1, rfl, hp, hP1⟩ | ⟨q, E, ce, rfl, hex, hP1, hce, hcv, hcl1⟩
  · obtain ⟨t2, a1, b1⟩ := kk r M1 T'.heap (locs ++ Lc) hp ⟨by rw [e1]; exact hE.back hJ hW.1 hP1 hF2, hS⟩ T' rfl (hst Lc hsm)
    exact ⟨t2, hgo _ ((hret r rfl).trans a1), b1⟩
  · have hPb := hE.back hJ hW.1 hP1 hF2
    rw [rd_pm_self] at hPb
    obtain ⟨t2, a1, b1⟩ := kx E ce q T'.heap (locs ++ Lc) hex ⟨by rw [e1]; exact hPb, hS⟩ (by rw [e1]; exact hce) hcv (hcl _ _ hcl1) T' rfl (hst Lc hsm)
    exact ⟨t2, hgo _ ((hthr q rfl).trans a1), b1⟩
theorem rd_callVS (hE : rd_E L L1 b) (hg : TT.all goodWord = true) (C9 : rd_C p c cc nL s m args own TT D cl ty L ad A) (hTh : rd_Th ss A s s.heap) (hW : rd_W D cl L ad A s.heap M H locs) {k : Nat} (hM : rd_Met l y bytes maxL rt rm TT ss D cl ty L1 (fun i => ad (b + i)) (fun k => M (b + k)) (.ref (ad (b + k)) :: As) post ex) (kc : rd_Cal TT y bytes maxL rt n) (ki : Cond.instanceMethod y ∈ TT) (ks : Cond.selects y.cls y y ∈ TT) (hl : Cond.methodLink own index y ∈ TT) (hn : As.length = n)
    (hk : k < L1.1) {ci : Nat} {fs : List Value} (he : L1.2 (fun i => ad (b + i)) k (M (b + k)) = .inr (ci, fs)) {T : u_T} {N : Nat} (hc : cl[ci]? = some (y.cls, T, N)) (hR : rm.1 + 1 ≤ R.frames ∧ 8 + (maxL + 11) + rm.2.1 ≤ R.locals) (hf : cells + rm.2.2.1 ≤ R.cells ∧ slots + rm.2.2.2 ≤ R.slots) (hsz : ls.size = nL) (hst : st = As.reverse ++ .ref (ad (b + k)) :: rest) (hr8 : (rest.map fun v => v.category).sum ≤ 8) (hdg : decode cc pc = .ok (.invokevirtual index, 3))
    (kx : ∀ (E : String) (ce : Cell) (q9 : Addr) (H1 : Heap) (locs1 : List Loc), ex E → rd_W D cl L ad A s.heap M H1 locs1 → H1[q9]? = some ce → ce.vm = .none → s.vm.findClass E = some ce.cls → rd_Tw p l e R s m args below meth c H1 locs1 (cells + rm.2.2.1) (slots + rm.2.2.2) Q (F0 m pc ls rest) q9)
    (kk : ∀ (r : Option Value) (M1 : rd_M) (H1 : Heap) (locs1 : List Loc), post r M1 → rd_W D cl L ad A s.heap (rd_pm L1.1 b M M1) H1 locs1 → W p l e R s m args below meth c H1 locs1 (cells + rm.2.2.1) (slots + rm.2.2.2) Q (F0 m (pc + 3) ls (r.toList ++ rest))) : W p l e R s m args below meth c H locs cells slots Q (F0 m pc ls st) := by
  obtain ⟨hx, hb, hml, hown, hts⟩ := C9.1
  intro T9 hT X
  have hP1 := hE.P hW.1
  obtain ⟨mk, methM, hnamed, hmethM, hstM, habM⟩ := Cond.instanceMethod_spec (hts _ ki)
  obtain ⟨methM', cM, hmethM', -, -, -, -, -, -, hsigM⟩ := Cond.code_spec hnamed (hts _ kc.1)
  cases hmethM.symm.trans hmethM'
  obtain ⟨c2, r2, m2, q1, q2, q3, q4, kP, hkP, hkPi⟩ := Cond.selects_spec (hts _ ks)
  obtain ⟨cellB, hcB, hoB, hclB⟩ := va_recv C9.2.1 hP1 (ci := ci) (q0 := k) hc (by rw [rd_at hk, he])
  cases hclB.symm.trans q1
  cases (State.methodFound?_of_named hnamed kc.2.2.1).symm.trans q2
  cases hnamed.symm.trans q3
  have hselP : selectMethod e.platform s.vm cellB.cls mk = .method mk := by rw [Launch.admits_selectMethod X.admits]; exact q4
  have hlen : As.length = methM.sig.parameters.length := by
    have h9 := kc.2.2.2
    rw [hsigM] at h9
    exact hn.trans (Option.some.inj h9).symm
  obtain ⟨vm₁, X₁, hstep₁⟩ := X.invokevirtual hx hown (hts _ hl) hnamed hmethM hstM hkP hkPi kc.2.2.1 (a := ad (b + k)) (cell := cellB) (by rw [hT]; exact hcB)
    (fun z h => by rw [h] at hoB; cases hoB) hselP hmethM habM hkP hkPi (g := F0 m pc ls st) rfl (argsL := As) (rest := rest) hlen hst (by rw [hb]; exact hdg)
  have hpre : rd_Pre D cl ty L1 (fun i => ad (b + i)) (fun k => M (b + k)) ss H.size (T9.setVm vm₁) := by
    refine ⟨by rw [show (T9.setVm vm₁).heap = H from hT], by rw [show (T9.setVm vm₁).heap = H from hT]; exact hP1, va_K.moved X₁.warmed.alike C9.2.1, ?_⟩
    rw [show (T9.setVm vm₁).heap = H from hT]
    refine rd_Th.go hTh hW.2 (fun q h => ?_) X₁.warmed
    rcases h with ⟨k, hk, rfl⟩ | h
    · exact C9.2.2.2.1 (b + k) (by have := hE.1; omega)
    · exact C9.2.2.2.2 q (Nat.le_trans hW.2.1 h)
  refine rd_onS hE C9 hW (U := T9.setVm vm₁) (gb := F0 m pc ls rest) (mk := mk) (a := (Value.ref (ad (b + k)) :: As).toArray) hT (fun E k h => by rw [← X₁.warmed.alike.findClass]; exact h) (fun target h => hstep₁ _ fun acts => by rw [doInvoke_state]; exact h) ?_ kx kk
  exact rd_core (hM (hE.J C9.2.2.1) H.size) rd_blind (fun _ _ _ h => rd_OW h) hR.1 hR.2 (rd_pays hg hts kc.1) List.mem_cons_self (fun a U h => pay_in hts (fun w hw => ⟨hw, good_of_word (List.all_eq_true.mp hg w hw)⟩) _ kc.2.1 a U h) X₁ (g := F0 m pc ls rest) rfl (hsz.trans hml.symm) (ig := .invokevirtual index) (by rw [hb]; exact hdg) (lv_room hr8) (X₁.named hnamed) ⟨rfl, hpre⟩ hf.1 hf.2
end RDU
/-! an exception caught by this method's own table -/
section RDH
variable {Q : Handler → Pre} {E : CtlPost} {e : Env} {d : Bool} {acts : List Action} {S : State} {f : JFrame} {a : Addr}
theorem rd_row {x : ExceptionTableEntry} {t : List ExceptionTableEntry} {c : ClassId} {cell : Cell} (hx : covers x f.pc = true) (h0 : x.catchType ≠ 0) (hl : S.vm.ClassLinks e.platform f.method.cls x.catchType c) (hcell : S.heap[a]? = some cell) (hobj : ∀ k, cell.vm ≠ .statics k) (hk : ∃ k, S.vm.classes[cell.cls]? = some k) (hc : ∃ k, S.vm.classes[c]? = some k) :
    wp (findHandler.go f a (x :: t)) Q E e d acts S ↔ if S.vm.assignable cell.cls c = true then Q (.found x.handlerPc) d acts (S.setVm (S.vm.noted f.method.cls x.catchType (.cls c))) else wp (findHandler.go f a t) Q E e d acts (S.setVm (S.vm.noted f.method.cls x.catchType (.cls c))) := by
  simp only [covers] at hx
  obtain ⟨ha, ht⟩ := (resolveClass_links e.toSetting hl).op (op := VmOp.resolveClass f.method.cls x.catchType) rfl
  have hal : S.vm.Alike (S.vm.noted f.method.cls x.catchType (.cls c)) := (Vm.Alike.refl S.vm).noted _ _ _
  obtain ⟨k1, hk1⟩ := hk
  obtain ⟨k2, hk2⟩ := hc
  obtain ⟨k1', hk1', -⟩ := hal.2.2 _ _ hk1
  obtain ⟨k2', hk2', -⟩ := hal.2.2 _ _ hk2
  cases hfit : S.vm.assignable cell.cls c
  · have hfit' : (S.vm.noted f.method.cls x.catchType (.cls c)).assignable cell.cls c = false := by rw [hal.assignable]; exact hfit
    simp [findHandler.go, hx, h0, ha, ht, hcell, hobj, hk1', hk2', hfit', VmOp.dirties, VmOp.acts]
  · have hfit' : (S.vm.noted f.method.cls x.catchType (.cls c)).assignable cell.cls c = true := by rw [hal.assignable]; exact hfit
    simp [findHandler.go, hx, h0, ha, ht, hcell, hobj, hk1', hk2', hfit', VmOp.dirties, VmOp.acts]
end RDH
/-- the table's rows all cover pc and name classes: the first that takes the thrown class is the one with the handler h -/
def rd_rows (e : Env) (s0 : State) (own : ClassId) (pc : Nat) (th : ClassId) (h : Nat) : List (Nat × Nat × Nat × Nat) → Prop
  | [] => False
  | x :: t => x.1 ≤ pc ∧ pc < x.2.1 ∧ x.2.2.2 ≠ 0 ∧ ∃ c, s0.vm.ClassLinks e.platform own x.2.2.2 c ∧ ((s0.vm.assignable th c = true ∧ x.2.2.1 = h) ∨ (s0.vm.assignable th c = false ∧ rd_rows e s0 own pc th h t))
theorem rd_search {e : Env} {s0 : State} {f : JFrame} {a : Addr} {cell : Cell} {h : Nat} (hobj : ∀ k, cell.vm ≠ .statics k) (hk0 : ∃ k, s0.vm.classes[cell.cls]? = some k) :
    ∀ (rows : List ExceptionTableEntry) (S : State), s0.WarmedH S.vm → S.heap[a]? = some cell → rd_rows e s0 f.method.cls f.pc cell.cls h (rows.map fun x => (x.startPc, x.endPc, x.handlerPc, x.catchType)) →
      ∃ vm', s0.WarmedH vm' ∧ ∀ (Q : Handler → Pre) (E : CtlPost) (d : Bool) (acts : List Action), wp (findHandler.go f a rows) Q E e d acts S ↔ Q (.found h) d acts (S.setVm vm') := by
  obtain ⟨k0, hk0⟩ := hk0
  intro rows
  induction rows with
  | nil => intro S _ _ hr; exact hr.elim
  | cons x t ih =>
    intro S hW hcell hr
    obtain ⟨h1, h2, h3, c, hl, hr⟩ := hr
    have hx : covers x f.pc = true := by simp only [covers, Bool.and_eq_true, decide_eq_true_eq]; exact ⟨h1, h2⟩
    obtain ⟨k0', hk0', -⟩ := hW.alike.2.2 _ _ hk0
    obtain ⟨dk, _, _, kt, hd, _, _, _, _, hkt, _, hopen⟩ := hl.here
    obtain ⟨kt', hkt', -⟩ := hW.alike.2.2 _ _ hkt
    have hW2 := hW.noted hd hopen (State.rightAt_cls hl)
    have key : ∀ (Q : Handler → Pre) (E : CtlPost) (d : Bool) (acts : List Action), _ := fun Q E d acts => rd_row (Q := Q) (E := E) (d := d) (acts := acts) (t := t) hx h3 (hW.classLinks hl) hcell hobj ⟨k0', hk0'⟩ ⟨kt', hkt'⟩
    rcases hr with ⟨hfit, rfl⟩ | ⟨hno, hr⟩
    · refine ⟨_, hW2, fun Q E d acts => ?_⟩
      rw [key Q E d acts, if_pos (by rw [hW.alike.assignable]; exact hfit)]
    · obtain ⟨vm', hW', hq⟩ := ih (S.setVm (S.vm.noted f.method.cls x.catchType (.cls c))) hW2 hcell hr
      refine ⟨vm', hW', fun Q E d acts => ?_⟩
      rw [key Q E d acts, if_neg (by rw [hW.alike.assignable, hno]; decide)]
      exact hq Q E d acts
section RDG
variable {p : Program} {l : Launch} {e : Env} {R : Room} {s : State} {m : MethodId} {args : Array Value} {below : List Frame} {meth : Method} {c : Code} {H : Heap} {locs : List Loc} {cells slots : Nat} {Q : State → Prop}
theorem rd_caught {pc h : Nat} {ls : Array Slot} {rest : List Value} {E : String} {ce : Cell} {q : Addr} (hcell : H[q]? = some ce) (hv : ce.vm = .none) (hcl : s.vm.findClass E = some ce.cls) (hr : rd_rows e s m.cls pc ce.cls h (c.exceptionTable.toList.map fun x => (x.startPc, x.endPc, x.handlerPc, x.catchType)))
    (kk : W p l e R s m args below meth c H locs cells slots Q (F0 m h ls [.ref q])) : rd_Tw p l e R s m args below meth c H locs cells slots Q (F0 m pc ls rest) q := by
  intro T hT X
  have hk0 : ∃ k, s.vm.classes[ce.cls]? = some k := by obtain ⟨k9, h9, -⟩ := Vm.findClass_spec hcl; exact ⟨k9, h9⟩
  have hcellT : ((T.setTop (F0 m pc ls rest)).pushFrame (.throwing q)).heap[q]? = some ce := by show T.heap[q]? = some ce; rw [hT]; exact hcell
  obtain ⟨vm', hW', hq⟩ := rd_search (e := e) (s0 := s) (f := F0 m pc ls rest) (a := q) (h := h) (fun k h9 => by rw [hv] at h9; cases h9) hk0 c.exceptionTable.toList ((T.setTop (F0 m pc ls rest)).pushFrame (.throwing q)) X.warmed hcellT hr
  obtain ⟨t, a1, b1⟩ := kk (T.setVm vm') hT (X.noted hW')
  refine ⟨t, ?_, b1⟩
  have hm9 : ((T.setTop (F0 m pc ls rest)).pushFrame (.throwing q)).vm.method? (F0 m pc ls rest).method = some meth := X.method'
  have hfind : ∀ (Q : Handler → Pre) (E : CtlPost) (d : Bool) (acts : List Action), wp (findHandler (F0 m pc ls rest) q) Q E e d acts ((T.setTop (F0 m pc ls rest)).pushFrame (.throwing q)) ↔ Q (.found h) d acts (((T.setTop (F0 m pc ls rest)).pushFrame (.throwing q)).setVm vm') := fun Q E d acts => by
    rw [Jvm.W.findHandler_eq hm9 X.code]; exact hq Q E d acts
  have hhere : At T (F0 m pc ls rest).method c below := X.here
  obtain ⟨hgo, hw⟩ := hhere.throwing q (g := F0 m pc ls rest)
  refine Steps.head hgo hw ?_
  have hstep : (stepThrowing e ((T.setTop (F0 m pc ls rest)).pushFrame (.throwing q)) q (.java (F0 m pc ls rest) :: T.frames.tail)).Is ((((T.setTop (F0 m pc ls rest)).pushFrame (.throwing q)).setVm vm').setFrames (.java (F0 m h ls [.ref q]) :: T.frames.tail)) [] := by
    simp only [stepThrowing, searchFrame, vmDo]
    generalize hr9 : Sem.go _ e false [] _ = res
    obtain ⟨as, rfl, ha⟩ := Sem.eq_ok_of hr9 (a := Handler.found h) (s' := ((T.setTop (F0 m pc ls rest)).pushFrame (.throwing q)).setVm vm') (acts' := []) (by simp [hfind _ _ _ _])
    exact ⟨rfl, ha⟩
  obtain ⟨g₀, hg⟩ := Option.isSome_iff_exists.mp X.here.top
  obtain ⟨r, hr9⟩ := State.topJava?_eq_some.mp hg
  have hr' : (T.setVm vm').frames = .java g₀ :: r := hr9
  rw [stepThread_throwing (frames_entered X.here.top _)]
  rw [hr9, List.tail_cons] at hstep ⊢
  rw [hstep.1]
  rw [State.setTop_of_frames _ hr'] at a1
  have e1 : (((T.setTop (F0 m pc ls rest)).pushFrame (.throwing q)).setVm vm').setFrames (.java (F0 m h ls [.ref q]) :: r) = (T.setVm vm').setFrames (.java (F0 m h ls [.ref q]) :: r) := by
    rw [State.setTop_of_frames _ hr9, State.pushFrame]
    show (((((T.setVm vm').setFrames _).setFrames _).setFrames _) : State) = _
    rw [State.setFrames_setFrames, State.setFrames_setFrames]
  rw [e1]
  exact a1
end RDG
