/-! a call is one row: two goals, behind a return and behind a throw -/
/-- what the tables say of a callee -/
def rd_Cal (TT : List Cond) (y : MethodName) (bytes : ByteArray) (maxL : Nat) (rt : Option FieldType) (n : Nat) : Prop :=
  Cond.code y bytes maxL rt ∈ TT ∧ Cond.initialized y.cls ∈ TT ∧ (y.cls ≠ "java/lang/invoke/MethodHandle" ∧ y.cls ≠ "java/lang/invoke/VarHandle") ∧ (parseMethodDescriptor y.desc).map (fun d => d.parameters.length) = some n
section RDC
variable {p : Program} {l : Launch} {e : Env} {R : Room} {s : State} {m : MethodId} {args : Array Value} {below : List Frame} {meth : Method} {c : Code} {H : Heap} {locs : List Loc} {cells slots : Nat} {Q : State → Prop}
variable {cc bytes : ByteArray} {nL maxL n index : Nat} {rt : Option FieldType} {rm : Nat × Nat × Nat × Nat} {own : String} {TT : List Cond} {ss : rd_SS} {D : va_G} {cl : List vw_C} {ty : List (ClassId × FieldType)} {L : rd_L} {ad : Nat → Nat} {A : Nat → Prop} {M : rd_M} {pc : Nat} {ls : Array Slot} {st rest As : List Value} {y : MethodName}
variable {post : Option Value → rd_M → Prop} {ex : String → Prop}
theorem rd_pays (hg : TT.all goodWord = true) (hts : ∀ w ∈ TT, w.before args s = true) (hc : Cond.code y bytes maxL rt ∈ TT) : ∀ w ∈ (Cond.code y bytes maxL rt :: TT), ∀ (a : Array Value) (U : State), s.WarmedH U.vm → w.before a U = true := by
  refine pay_in hts fun w hw => ?_
  have h1 : w ∈ TT := by
    rcases List.mem_cons.mp hw with h | h
    · rw [h]; exact hc
    · exact h
  exact ⟨h1, good_of_word (List.all_eq_true.mp hg w h1)⟩
theorem rd_pre (C9 : rd_C p c cc nL s m args own TT D cl ty L ad A) (hTh : rd_Th ss A s s.heap) (hW : rd_W D cl L ad A s.heap M H locs) {U : State} (hU : U.heap = H) (hWm : s.WarmedH U.vm) : rd_Pre D cl ty L ad M ss H.size U := by
  obtain ⟨-, hK, -, hA, hA2⟩ := C9
  refine ⟨by rw [hU], by rw [hU]; exact hW.1, va_K.moved hWm.alike hK, ?_⟩
  rw [hU]
  refine rd_Th.go hTh hW.2 (fun q h => ?_) hWm
  rcases h with ⟨k, hk, rfl⟩ | h
  · exact hA k hk
  · exact hA2 q (Nat.le_trans hW.2.1 h)
theorem rd_OW {A1 : Nat → Prop} {mc ms : Nat} {st1 t : State} {o : Outcome} (h : rd_O D cl L ad M A1 mc ms post ex st1 o t) : st1.WarmedH t.vm ∧ (∃ Lc, st1.sameButNew ({ t with vm := st1.vm } : State) Lc mc ms) ∧ ((∃ v, o = .returned v) ∨ ∃ q, o = .threw q) := by
  obtain ⟨-, h1, ⟨Lc, h2, -⟩, h3⟩ := h
  refine ⟨h1, ⟨Lc, h2⟩, ?_⟩
  rcases h3 with ⟨r, -, e1, -⟩ | ⟨q, -, -, e1, -⟩
  · exact Or.inl ⟨r, e1⟩
  · exact Or.inr ⟨q, e1⟩
/-- behind a call: the two ways on -/
theorem rd_on (C9 : rd_C p c cc nL s m args own TT D cl ty L ad A) (hW : rd_W D cl L ad A s.heap M H locs) {mc ms : Nat} {T U : State} {g : JFrame} {mk : MethodId} {a : Array Value} {gb : JFrame}
    (hU : U.heap = H) (hUvm : s.vm.Alike U.vm) (hcl : ∀ E k, U.vm.findClass E = some k → s.vm.findClass E = some k)
    (hgo : ∀ target, Steps p.tables e below (doInvoke e (U.setTop gb) [] mk a).1 target → Steps p.tables e below (T.setTop g) target)
    (core : ∃ (o : Outcome) (t T' : State), rd_O D cl L ad M (rd_A L ad H.size) mc ms post ex (U.calling gb mk a) o t ∧ T'.heap = t.heap ∧ T'.vm = t.vm ∧ (∀ Lc, (U.calling gb mk a).sameButNew ({ t with vm := (U.calling gb mk a).vm } : State) Lc mc ms → Stand p l e R s m args below meth c T' (locs ++ Lc) (cells + mc) (slots + ms)) ∧
      (∀ v, o = .returned v → Steps p.tables e below (doInvoke e (U.setTop gb) [] mk a).1 (T'.setTop { gb with pc := gb.pc + 3, stack := v.toList ++ gb.stack })) ∧
      (∀ q, o = .threw q → Steps p.tables e below (doInvoke e (U.setTop gb) [] mk a).1 ((T'.setTop gb).pushFrame (.throwing q))))
    (kx : ∀ (E : String) (ce : Cell) (q9 : Addr) (H1 : Heap) (locs1 : List Loc), ex E → rd_W D cl L ad A s.heap M H1 locs1 → H1[q9]? = some ce → ce.vm = .none → s.vm.findClass E = some ce.cls → rd_Tw p l e R s m args below meth c H1 locs1 (cells + mc) (slots + ms) Q gb q9)
    (kk : ∀ (r : Option Value) (M1 : rd_M) (H1 : Heap) (locs1 : List Loc), post r M1 → rd_W D cl L ad A s.heap M1 H1 locs1 → W p l e R s m args below meth c H1 locs1 (cells + mc) (slots + ms) Q { gb with pc := gb.pc + 3, stack := r.toList ++ gb.stack }) : ∃ t, Steps p.tables e below (T.setTop g) t ∧ Q t := by
  obtain ⟨-, -, -, hA, hA2⟩ := C9
  have hf : ∀ q, rd_A L ad H.size q → A q := by
    intro q h
    rcases h with ⟨k, hk, rfl⟩ | h
    · exact hA k hk
    · exact hA2 q (Nat.le_trans hW.2.1 h)
  obtain ⟨o, t, T', ⟨hF, -, ⟨Lc, hsm, hL⟩, hend⟩, e1, e2, hst, hret, hthr⟩ := core
  have hF1 : H.size ≤ t.heap.size := by have h9 := hF.1; rw [show (U.calling gb mk a).heap = H from hU] at h9; exact h9
  have hF2 : ∀ q : Nat, q < H.size → ¬ rd_A L ad H.size q → t.heap[q]? = H[q]? := by have h9 := hF.2; rw [show (U.calling gb mk a).heap = H from hU] at h9; exact h9
  have hS : va_S A s.heap T'.heap (locs ++ Lc) := by
    rw [e1]
    refine ⟨Nat.le_trans hW.2.1 hF1, fun q h1 h2 => ?_, fun q hq => ?_⟩
    · rw [hF2 q (Nat.lt_of_lt_of_le h1 hW.2.1) (fun z => h2 (hf q z))]
      exact hW.2.2.1 q h1 h2
    · rcases List.mem_append.mp hq with h | h
      · exact hW.2.2.2 q h
      · exact hf _ (hL q h)
  rcases hend with ⟨r, M1, rfl, hp, hP1⟩ | ⟨q, E, ce, rfl, hex, hP1, hce, hcv, hcl1⟩
  · obtain ⟨t2, a1, b1⟩ := kk r M1 T'.heap (locs ++ Lc) hp ⟨by rw [e1]; exact hP1, hS⟩ T' rfl (hst Lc hsm)
    exact ⟨t2, hgo _ ((hret r rfl).trans a1), b1⟩
  · obtain ⟨t2, a1, b1⟩ := kx E ce q T'.heap (locs ++ Lc) hex ⟨by rw [e1]; exact hP1, hS⟩ (by rw [e1]; exact hce) hcv (hcl _ _ hcl1) T' rfl (hst Lc hsm)
    exact ⟨t2, hgo _ ((hthr q rfl).trans a1), b1⟩
theorem rd_callV (hg : TT.all goodWord = true) (C9 : rd_C p c cc nL s m args own TT D cl ty L ad A) (hTh : rd_Th ss A s s.heap) (hW : rd_W D cl L ad A s.heap M H locs) {k : Nat} (hM : rd_Met l y bytes maxL rt rm TT ss D cl ty L ad M (.ref (ad k) :: As) post ex) (kc : rd_Cal TT y bytes maxL rt n) (ki : Cond.instanceMethod y ∈ TT) (ks : Cond.selects y.cls y y ∈ TT) (hl : Cond.methodLink own index y ∈ TT) (hn : As.length = n)
    (hk : k < L.1) {ci : Nat} {fs : List Value} (he : L.2 ad k (M k) = .inr (ci, fs)) {T : u_T} {N : Nat} (hc : cl[ci]? = some (y.cls, T, N)) (hR : rm.1 + 1 ≤ R.frames ∧ 8 + (maxL + 11) + rm.2.1 ≤ R.locals) (hf : cells + rm.2.2.1 ≤ R.cells ∧ slots + rm.2.2.2 ≤ R.slots) (hsz : ls.size = nL) (hst : st = As.reverse ++ .ref (ad k) :: rest) (hr8 : (rest.map fun v => v.category).sum ≤ 8) (hdg : decode cc pc = .ok (.invokevirtual index, 3))
    (kx : ∀ (E : String) (ce : Cell) (q9 : Addr) (H1 : Heap) (locs1 : List Loc), ex E → rd_W D cl L ad A s.heap M H1 locs1 → H1[q9]? = some ce → ce.vm = .none → s.vm.findClass E = some ce.cls → rd_Tw p l e R s m args below meth c H1 locs1 (cells + rm.2.2.1) (slots + rm.2.2.2) Q (F0 m pc ls rest) q9)
    (kk : ∀ (r : Option Value) (M1 : rd_M) (H1 : Heap) (locs1 : List Loc), post r M1 → rd_W D cl L ad A s.heap M1 H1 locs1 → W p l e R s m args below meth c H1 locs1 (cells + rm.2.2.1) (slots + rm.2.2.2) Q (F0 m (pc + 3) ls (r.toList ++ rest))) : W p l e R s m args below meth c H locs cells slots Q (F0 m pc ls st) := by
  obtain ⟨hx, hb, hml, hown, hts⟩ := C9.1
  intro T9 hT X
  obtain ⟨mk, methM, hnamed, hmethM, hstM, habM⟩ := Cond.instanceMethod_spec (hts _ ki)
  obtain ⟨methM', cM, hmethM', -, -, -, -, -, -, hsigM⟩ := Cond.code_spec hnamed (hts _ kc.1)
  cases hmethM.symm.trans hmethM'
  obtain ⟨c2, r2, m2, q1, q2, q3, q4, kP, hkP, hkPi⟩ := Cond.selects_spec (hts _ ks)
  obtain ⟨cellB, hcB, hoB, hclB⟩ := va_recv C9.2.1 hW.1 (ci := ci) (q0 := k) hc (by rw [rd_at hk, he])
  cases hclB.symm.trans q1
  cases (State.methodFound?_of_named hnamed kc.2.2.1).symm.trans q2
  cases hnamed.symm.trans q3
  have hselP : selectMethod e.platform s.vm cellB.cls mk = .method mk := by rw [Launch.admits_selectMethod X.admits]; exact q4
  have hlen : As.length = methM.sig.parameters.length := by
    have h9 := kc.2.2.2
    rw [hsigM] at h9
    exact hn.trans (Option.some.inj h9).symm
  obtain ⟨vm₁, X₁, hstep₁⟩ := X.invokevirtual hx hown (hts _ hl) hnamed hmethM hstM hkP hkPi kc.2.2.1 (a := ad k) (cell := cellB) (by rw [hT]; exact hcB)
    (fun z h => by rw [h] at hoB; cases hoB) hselP hmethM habM hkP hkPi (g := F0 m pc ls st) rfl (argsL := As) (rest := rest) hlen hst (by rw [hb]; exact hdg)
  refine rd_on C9 hW (U := T9.setVm vm₁) (gb := F0 m pc ls rest) (mk := mk) (a := (Value.ref (ad k) :: As).toArray) hT X₁.warmed.alike (fun E k h => by rw [← X₁.warmed.alike.findClass]; exact h) (fun target h => hstep₁ _ fun acts => by rw [doInvoke_state]; exact h) ?_ kx kk
  exact rd_core (hM C9.2.2.1 H.size) rd_blind (fun _ _ _ h => rd_OW h) hR.1 hR.2 (rd_pays hg hts kc.1) List.mem_cons_self (fun a U h => pay_in hts (fun w hw => ⟨hw, good_of_word (List.all_eq_true.mp hg w hw)⟩) _ kc.2.1 a U h) X₁ (g := F0 m pc ls rest) rfl (hsz.trans hml.symm) (ig := .invokevirtual index) (by rw [hb]; exact hdg) (lv_room hr8) (X₁.named hnamed) ⟨rfl, rd_pre C9 hTh hW hT X₁.warmed⟩ hf.1 hf.2
theorem rd_callS (hg : TT.all goodWord = true) (C9 : rd_C p c cc nL s m args own TT D cl ty L ad A) (hTh : rd_Th ss A s s.heap) (hW : rd_W D cl L ad A s.heap M H locs) (hM : rd_Met l y bytes maxL rt rm TT ss D cl ty L ad M As post ex) (kc : rd_Cal TT y bytes maxL rt n) (ki : Cond.static y ∈ TT) (hl : Cond.methodLink own index y ∈ TT) (hn : As.length = n)
    (hR : rm.1 + 1 ≤ R.frames ∧ 8 + (maxL + 11) + rm.2.1 ≤ R.locals) (hf : cells + rm.2.2.1 ≤ R.cells ∧ slots + rm.2.2.2 ≤ R.slots) (hsz : ls.size = nL) (hst : st = As.reverse ++ rest) (hr8 : (rest.map fun v => v.category).sum ≤ 8) (hdg : decode cc pc = .ok (.invokestatic index, 3))
    (kx : ∀ (E : String) (ce : Cell) (q9 : Addr) (H1 : Heap) (locs1 : List Loc), ex E → rd_W D cl L ad A s.heap M H1 locs1 → H1[q9]? = some ce → ce.vm = .none → s.vm.findClass E = some ce.cls → rd_Tw p l e R s m args below meth c H1 locs1 (cells + rm.2.2.1) (slots + rm.2.2.2) Q (F0 m pc ls rest) q9)
    (kk : ∀ (r : Option Value) (M1 : rd_M) (H1 : Heap) (locs1 : List Loc), post r M1 → rd_W D cl L ad A s.heap M1 H1 locs1 → W p l e R s m args below meth c H1 locs1 (cells + rm.2.2.1) (slots + rm.2.2.2) Q (F0 m (pc + 3) ls (r.toList ++ rest))) : W p l e R s m args below meth c H locs cells slots Q (F0 m pc ls st) := by
  obtain ⟨hx, hb, hml, hown, hts⟩ := C9.1
  intro T9 hT X
  obtain ⟨mk, hnamed⟩ := Cond.code_named (hts _ kc.1)
  obtain ⟨methM, cM, hmethM, -, -, -, -, -, -, hsigM⟩ := Cond.code_spec hnamed (hts _ kc.1)
  have hstatic : methM.isStatic = true := Cond.static_spec hnamed hmethM (hts _ ki)
  obtain ⟨kP, hkP, -⟩ := className_of_methodNamed hnamed
  have hinitP : kP.init = .initialized := Cond.initialized_spec (findClass_of_methodNamed hnamed) hkP (hts _ kc.2.1)
  have hlen : As.length = methM.sig.parameters.length := by
    have h9 := kc.2.2.2
    rw [hsigM] at h9
    exact hn.trans (Option.some.inj h9).symm
  obtain ⟨vm₁, X₁, hstep₁⟩ := X.invokestatic hx hown (hts _ hl) hnamed hmethM hstatic hkP hinitP kc.2.2.1 (g := F0 m pc ls st) rfl (argsL := As) (rest := rest) hlen hst (by rw [hb]; exact hdg)
  refine rd_on C9 hW (U := T9.setVm vm₁) (gb := F0 m pc ls rest) (mk := mk) (a := As.toArray) hT X₁.warmed.alike (fun E k h => by rw [← X₁.warmed.alike.findClass]; exact h) (fun target h => hstep₁ _ fun acts => by rw [doInvoke_state]; exact h) ?_ kx kk
  exact rd_core (hM C9.2.2.1 H.size) rd_blind (fun _ _ _ h => rd_OW h) hR.1 hR.2 (rd_pays hg hts kc.1) List.mem_cons_self (fun a U h => pay_in hts (fun w hw => ⟨hw, good_of_word (List.all_eq_true.mp hg w hw)⟩) _ kc.2.1 a U h) X₁ (g := F0 m pc ls rest) rfl (hsz.trans hml.symm) (ig := .invokestatic index) (by rw [hb]; exact hdg) (lv_room hr8) (X₁.named hnamed) ⟨rfl, rd_pre C9 hTh hW hT X₁.warmed⟩ hf.1 hf.2
end RDC
