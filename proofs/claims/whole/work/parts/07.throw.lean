/-! 'throw new E("text")' -/
section RDT
variable {p : Program} {l : Launch} {e : Env} {R : Room} {s : State} {m : MethodId} {args : Array Value} {below : List Frame} {meth : Method} {c : Code} {H : Heap} {locs : List Loc} {cells slots : Nat}
variable {cc : ByteArray} {nL : Nat} {own : String} {TT : List Cond} {ss : rd_SS} {D : va_G} {cl : List vw_C} {ty : List (ClassId × FieldType)} {L : rd_L} {ad : Nat → Nat} {A : Nat → Prop} {M : rd_M} {pc : Nat} {ls : Array Slot} {rest : List Value}
variable {post : Option Value → rd_M → Prop} {ex : String → Prop} {mc ms : Nat}
/-- from here on, as if the invocation began in this heap: nothing written yet, nothing made yet -/
theorem rd_anew {T : State} (X : Stand p l e R s m args below meth c T locs cells slots) {k n : Nat} (hc : cells + k ≤ R.cells) (hs : slots + n ≤ R.slots) :
    Stand p l e { frames := R.frames, locals := R.locals, cells := k, slots := n } ((T.setVm s.vm).setFrames (.invoking m args :: below)) m args below meth c T [] 0 0 := by
  have ht : (T.setVm s.vm).topJava?.isSome := X.here.top
  have hfr : ((T.setVm s.vm).setFrames (.invoking m args :: below)).frames = .invoking m args :: below := State.frames_setFrames _ (State.cur_lt_of_top ht)
  obtain ⟨g0, hg0⟩ := Option.isSome_iff_exists.mp ht
  obtain ⟨fr, hfr0⟩ := State.topJava?_eq_some.mp hg0
  have nodrop : (T.heap.toList.drop T.heap.size).map (·.slots.size) = [] := by
    rw [List.drop_eq_nil_of_le (Nat.le_of_eq Array.length_toList)]; rfl
  refine ⟨X.admits, X.cas, X.clock, hfr, ?_, X.hears, X.method, X.code, X.here, X.tail, X.warmed, by rw [State.stackLimits_setFrames]; rfl, by rw [State.stackBytes_setFrames]; rfl, ?_⟩
  · have old := X.room
    have hz := X.heapSize
    have hu := X.used
    have hl9 : e.platform.stackLimits (T.setVm s.vm).me = e.platform.stackLimits s.me := X.limits
    have hb9 : (T.setVm s.vm).me.stackBytes = s.me.stackBytes := X.bytes
    have hloc : ((T.setVm s.vm).setFrames (.invoking m args :: below)).localsInUse = s.localsInUse := by
      rw [State.localsInUse_invoking hfr (meth := meth) (c := c) X.method X.code, State.localsInUse_invoking X.frames X.method X.code]
    simp only [State.hasRoom, Bool.and_eq_true, decide_eq_true_eq] at old ⊢
    obtain ⟨⟨⟨⟨o1, o2, o3, o4, o5, o6⟩, o7⟩, o8⟩, o9⟩ := old
    rw [X.frames, List.length_cons] at o2 o3
    simp only [hfr, hloc, List.length_cons, State.stackLimits_setFrames, State.stackBytes_setFrames, hl9, hb9]
    refine ⟨⟨⟨⟨by omega, by omega, by omega, by omega, by omega, o6⟩, ?_⟩, ?_⟩, X.book⟩
    · show T.heap.size + k ≤ e.platform.maxCells
      omega
    · show T.slotsUsed + n ≤ e.platform.maxSlots
      omega
  · refine ⟨?_, Nat.le_refl _, Nat.le_refl _, ?_, ?_, fun a c9 h9 => ⟨c9, h9, rfl, rfl, fun _ _ => rfl⟩⟩
    · obtain ⟨th, hth, -⟩ := State.frames_cons hfr0
      show T.setVm s.vm = { ((T.setVm s.vm).setFrames (.invoking m args :: below)).setFrames (T.setVm s.vm).frames with heap := T.heap, slotsUsed := T.slotsUsed }
      rw [State.setFrames_setFrames, State.setFrames_self hth]
      rfl
    · show T.slotsUsed = T.slotsUsed + ((T.heap.toList.drop T.heap.size).map (·.slots.size)).sum
      rw [nodrop]; rfl
    · show ((T.heap.toList.drop T.heap.size).map (·.slots.size)).sum ≤ 0
      rw [nodrop]; exact Nat.le_refl _
/-- nothing written: the old cells are what they were -/
theorem rd_still {st U : State} {k n : Nat} (h : st.sameButNew ({ U with vm := st.vm } : State) [] k n) : st.heap.size ≤ U.heap.size ∧ ∀ q : Nat, q < st.heap.size → U.heap[q]? = st.heap[q]? := by
  obtain ⟨-, h2, -, -, -, h6⟩ := h
  refine ⟨h2, fun q hq => ?_⟩
  obtain ⟨c9, e1, e2, -, e4⟩ := h6 q _ (Array.getElem?_eq_getElem hq)
  have hs : c9.slots = (st.heap[q]).slots := Array.ext_getElem? fun i => e4 i (fun hm => by cases hm)
  rw [hs] at e2
  have e5 : U.heap[q]? = some c9 := e1
  rw [e5, Array.getElem?_eq_getElem hq, show c9 = st.heap[q] from e2]
/-- the two words that a static's cell gives -/
theorem rd_St.words {n d : String} (h : rd_St n d A s s.heap) (a : Array Value) : (Cond.laysStatic Bundle.tN n d).before a s = true ∧ (Cond.isRef (.static Bundle.tN n d)).before a s = true := by
  obtain ⟨h0, c1, k, i, f, b, cell, h1, h2, h3, h4, h5, h6, h7, h8, h9, -⟩ := h
  refine ⟨Cond.laysStatic_of h1 h2 h3 h4 h5 h6 h7 h8 h9, ?_⟩
  have key : ∀ v : Value, v.isRef = true → va_Z Bundle.tN n d v A s s.heap → (Cond.isRef (.static Bundle.tN n d)).before a s = true := by
    intro v hv hz
    obtain ⟨cf, kf, fi, g, b2, cell2, g1, g2, g3, g4, g5, g6, g7, -⟩ := hz
    have he : (Term.static Bundle.tN n d).eval a s none [] s = some v := by
      simp [Term.eval, State.fieldNamed?, g1, g2, g4, g5, g6, g7]
    simp only [Cond.before, Cond.holds, Cond.value, he]
    cases v <;> simp_all [Value.isRef]
  rcases h0 with h0 | ⟨t, h0⟩
  · exact key _ rfl h0
  · exact key _ rfl h0
/-- a throw's words: in the table, among the ones carried along, or a static's -/
def rd_tw (TT : List Cond) (nn : List Cond) (w : Cond) : Prop := w ∈ TT ∨ w ∈ nn ∨ w = .isRef (.static Bundle.tN "UNASSIGNED_STACK" Bundle.steD) ∨ w = .isRef (.static Bundle.tN "SUPPRESSED_SENTINEL" Bundle.listD) ∨ w = .laysStatic Bundle.tN "UNASSIGNED_STACK" Bundle.steD ∨ w = .laysStatic Bundle.tN "SUPPRESSED_SENTINEL" Bundle.listD
theorem rd_throw (hls : l.stackTraces = false) (C9 : rd_C p c cc nL s m args own TT D cl ty L ad A) (hnt : ∀ x ∈ c.exceptionTable.toList, False) (hlk : meth.locks = false) (hTh : rd_Th ss A s s.heap) (hW : rd_W D cl L ad A s.heap M H locs) (hsz : ls.size = nL)
    {cls text : String} {names : List String} {ik is ic : Nat} (hgood : TT.all goodWord = true) (hcls : Bundle.fit cls = true) (hnames : ∀ n ∈ names, Bundle.fit n = true) (hk : Cond.classLink own ik cls ∈ TT) (hini : Cond.initialized cls ∈ TT) (hs9 : (own, is, text) ∈ ss.1) (hat : ∀ w ∈ Bundle.ownAtoms own ic cls names, rd_tw TT ss.2 w)
    (d0 : decode cc pc = .ok (.new ik, 3)) (d3 : decode cc (pc + 3) = .ok (.dup, 1)) (d4 : decode cc (pc + 4) = .ok (.ldc is, 2)) (d6 : decode cc (pc + 6) = .ok (.invokespecial ic, 3)) (d9 : decode cc (pc + 9) = .ok (.athrow, 1))
    (hRf : names.length + 3 < R.frames) (hRl : (rest.map fun v => v.category).sum + (13 * (names.length + 1) + 43) ≤ R.locals) (hRc : cells + 1 ≤ R.cells) (hRs : slots + 6 ≤ R.slots) (hex : ex cls) (hc : cells + 1 ≤ mc) (hs : slots + 6 ≤ ms) :
    W p l e R s m args below meth c H locs cells slots (rd_Z below (rd_O D cl L ad M A mc ms post ex) s) (F0 m pc ls rest) := by
  obtain ⟨hx, hb, hml, hown, hts⟩ := C9.1
  intro T hT X
  have htr : e.platform.stackTraces = false := (show e.platform.stackTraces = l.stackTraces by rw [X.admits.platform]).trans hls
  have Y := rd_anew X (k := 1) (n := 6) hRc hRs
  obtain ⟨s', hA⟩ : ∃ z, z = (T.setVm s.vm).setFrames (.invoking m args :: below) := ⟨_, rfl⟩
  rw [← hA] at Y
  have hvm : s'.vm = s.vm := by rw [hA]; rfl
  have hhp : s'.heap = H := by rw [hA]; exact hT
  have hWs : s.WarmedH s'.vm := by rw [hvm]; exact State.WarmedH.refl s
  have hTh' : rd_Th ss A s' s'.heap := by rw [hhp]; exact rd_Th.go hTh hW.2 (fun _ h => h) hWs
  have hts' : ∀ w ∈ TT, w.before args s' = true := fun w hw => word_at hWs (good_of_word (List.all_eq_true.mp hgood w hw)) (hts w hw)
  have hall : ∀ w ∈ Bundle.ownAtoms own ic cls names, w.before args s' = true := by
    intro w hw
    rcases hat w hw with h | h | rfl | rfl | rfl | rfl
    · exact hts' _ h
    · exact va_Nw.use (rd_nt (hTh'.2.2.2 w h).1) (hTh'.2.2.2 w h).2
    · exact (hTh'.1.words args).2
    · exact (hTh'.2.1.words args).2
    · exact (hTh'.1.words args).1
    · exact (hTh'.2.1.words args).1
  obtain ⟨sa, hstr⟩ := hTh'.2.2.1 _ hs9
  have hown' : s'.vm.findClass own = some m.cls := by rw [hvm]; exact hown
  obtain ⟨vm₁, cX, kX, hfX, hkX, -, -, X₁, st1⟩ := Y.newCold hx (own := own) (C := cls) (index := ik) (n := 6) hown' (hts' _ hk) (hall _ (by simp [Bundle.ownAtoms])) (hts' _ hini) (g := F0 m pc ls rest) rfl (by rw [hb]; exact d0) (Nat.le_refl _) (Nat.le_refl _)
  generalize hT1 : (T.setVm vm₁).pushCell { cls := cX, slots := kX.instanceTypes.map defaultValue, vm := .none } = T1 at X₁ st1
  have hcellA : T1.heap[T.heap.size]? = some (freshCell cX kX) := by rw [← hT1]; exact State.heap_pushCell_size _ _
  have d3' : decode c.code (pc + 3) = .ok (.dup, 1) := by rw [hb]; exact d3
  have d4' : decode c.code (pc + 4) = .ok (.ldc is, 2) := by rw [hb]; exact d4
  have hcat : ∀ a : Nat, (Value.ref a).category = 1 := fun _ => rfl
  obtain ⟨U, hsteps, hrun, hend, hWm, hsame, ce, hce, hO⟩ := X₁.ctorThrowS hx htr (own := own) (cls := cls) (names := names) (ic := ic) hown' hcls hnames hall (fun x hx9 => by cases hx9) hfX hkX hcellA (by rw [hhp, hT]; exact Nat.le_refl _) (msg := .ref sa) rfl
    (g := F0 m (pc + 6) ls (.ref sa :: .ref T.heap.size :: .ref T.heap.size :: rest)) rfl (hsz.trans hml.symm) rfl rfl (rest := rest) rfl
    (by rw [hb]; exact d6) (by rw [hb]; exact d9) (fun x hx9 => (hnt x hx9).elim) hRf (by simp only [List.map_cons, List.sum_cons, hcat]; show 2 * 0 + _ + _ ≤ R.locals; omega) hlk
  obtain ⟨f1, f2⟩ := rd_still hsame
  rw [hhp] at f1 f2
  have hPU : va_P D cl (rd_ws L ad M) U.heap := hW.1.kept fun k q hq => f2 q.1 (hW.1 k q hq).lt
  have hall2 : s.sameButNew ({ U with vm := s.vm } : State) locs mc ms := by
    subst hA
    obtain ⟨e1, e2⟩ := hsame
    rw [State.setFrames_setFrames] at e1
    have h2 : (T.setVm s.vm).sameButNew ({ U with vm := s.vm } : State) [] (0 + 1) (0 + 6) := ⟨e1, e2⟩
    have h3 := X.same.trans h2
    rw [List.append_nil] at h3
    exact h3.mono hc hs
  have hcl9 : s.vm.findClass cls = some ce.cls := by
    have h9 := hO.cls
    rw [hvm] at h9
    exact h9
  refine ⟨U, st1 _ ?_, .threw T.heap.size, hrun, hend, ⟨Nat.le_trans hW.2.1 f1, fun q h1 h2 => ?_⟩, State.WarmedH.trans hWs hWm, ⟨locs, hall2, hW.2.2.2⟩, Or.inr ⟨T.heap.size, cls, ce, rfl, hex, hPU, hce, hO.vm, hcl9⟩⟩
  · show Steps p.tables e below (T1.setTop { method := m, pc := pc + 3, locals := ls, stack := .ref T.heap.size :: rest, locked := none }) _
    jvm_step X₁.here [X₁.here.top, hx, d3', Value.category]
    exact X₁.ldcString hx (own := own) (text := text) (index := is) (a := sa) hown' hstr.1 hstr.2
      (g := { method := m, pc := pc + 4, locals := ls, stack := .ref T.heap.size :: .ref T.heap.size :: rest, locked := none }) rfl d4' _ hsteps
  · rw [f2 q (Nat.lt_of_lt_of_le h1 hW.2.1)]
    exact hW.2.2.1 q h1 h2
end RDT
