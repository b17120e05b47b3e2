def lw_0 : rd_M := fun k => if k < 117 then dk_0 k else if k < 139 then rm_0 (k - 117) else (fun _ => 0, fun _ => 0, fun _ => 0)
theorem lw_prim {args : Array Value} {s : State} {t : FieldType} (h : (Cond.arrayClass t).before args s = true) (hp : ∀ z, t ≠ .object z) : ∃ cA, ArrOfT s cA t ∧ va_RA s cA t := by
  obtain ⟨cA, kA, comp, hfind, hk, hkind⟩ := Cond.arrayClass_spec h
  refine ⟨cA, fun N z => ⟨(fun k h => by cases h), kA, hk, comp, hkind⟩, ?_⟩
  unfold va_RA
  revert hp hfind
  cases t <;> intro hp hfind <;> first | exact hfind | exact absurd rfl (hp _)
theorem lw_over {args : Array Value} {s : State} {C : String} (h : (Cond.arrayOver (.object C)).before args s = true) : ∃ cA, ArrOfT s cA (.object C) ∧ va_RA s cA (.object C) := by
  obtain ⟨comp, c, k, h1, h2, h3, h4, h5⟩ := Cond.arrayOver_spec h
  exact ⟨c, fun N z => ⟨(fun k h => by cases h), k, h3, comp, h4⟩, k, comp, h3, h4, h1, h5⟩
theorem lw_know {args : Array Value} {s : State} (hts : ∀ w ∈ lw_tbl, w.before args s = true) : ∃ (D : va_G) (Ka : Nat → ClassId), va_K D rd_cl (rd_ty Ka) s := by
  have ht : ∀ w ∈ rd_T, w.before args s = true := fun w h => hts w (rd_sub w h)
  obtain ⟨cK, iK, kK⟩ := u_known ht fi_K (ht _ it_K)
  obtain ⟨cA, iA, kA⟩ := u_known ht fi_A (ht _ it_A)
  obtain ⟨cS, iS, kS⟩ := u_known ht fi_S (ht _ it_S)
  obtain ⟨cT, iT, kT⟩ := u_known ht fi_T (ht _ it_T)
  obtain ⟨cR, iR, kR⟩ := u_known ht fi_R (ht _ it_R)
  obtain ⟨cD, iD, kD⟩ := u_known ht fi_D (ht _ it_D)
  obtain ⟨cN, iN, kN⟩ := u_known ht fi_N (ht _ it_N)
  obtain ⟨t_int, a_int, r_int⟩ := lw_prim (ht _ ar_int) (by intro z h; cases h)
  obtain ⟨t_long, a_long, r_long⟩ := lw_prim (ht _ ar_long) (by intro z h; cases h)
  obtain ⟨t_double, a_double, r_double⟩ := lw_prim (ht _ ar_double) (by intro z h; cases h)
  obtain ⟨t_Account, a_Account, r_Account⟩ := lw_over (hts _ ov_Account)
  obtain ⟨t_Shelf, a_Shelf, r_Shelf⟩ := lw_over (hts _ ov_Shelf)
  obtain ⟨t_Thing, a_Thing, r_Thing⟩ := lw_over (hts _ ov_Thing)
  obtain ⟨t_Row, a_Row, r_Row⟩ := lw_over (hts _ ov_Row)
  obtain ⟨t_Domain, a_Domain, r_Domain⟩ := lw_over (hts _ ov_Domain)
  refine ⟨(fun c => [cK, cA, cS, cT, cR, cD, cN].getD c 0, fun c => [iK, iA, iS, iT, iR, iD, iN].getD c (fun _ => 0)), fun k => [t_int, t_long, t_double, t_Account, t_Shelf, t_Thing, t_Row, t_Domain].getD k 0, fun c q hq => ?_, fun k q hq => ?_⟩
  · match c, hq with
    | 0, hq => cases hq; exact kK
    | 1, hq => cases hq; exact kA
    | 2, hq => cases hq; exact kS
    | 3, hq => cases hq; exact kT
    | 4, hq => cases hq; exact kR
    | 5, hq => cases hq; exact kD
    | 6, hq => cases hq; exact kN
    | c + 7, hq => cases hq
  · unfold rd_ty at hq
    match k, hq with
    | 0, hq => cases hq; exact ⟨a_int, r_int⟩
    | 1, hq => cases hq; exact ⟨a_long, r_long⟩
    | 2, hq => cases hq; exact ⟨a_double, r_double⟩
    | 3, hq => cases hq; exact ⟨a_Account, r_Account⟩
    | 4, hq => cases hq; exact ⟨a_Shelf, r_Shelf⟩
    | 5, hq => cases hq; exact ⟨a_Thing, r_Thing⟩
    | 6, hq => cases hq; exact ⟨a_Row, r_Row⟩
    | 7, hq => cases hq; exact ⟨a_Domain, r_Domain⟩
    | k + 8, hq => cases hq
theorem lw_St {b : Nat} {s : State} {n d : String} (hts : ∀ w ∈ lw_tbl, w.before #[Value.ref b] s = true) (hl : Cond.laysStatic Bundle.tN n d ∈ lw_tbl) (h : (Cond.isRef (.static Bundle.tN n d)).before #[Value.ref b] s = true) : rd_St n d (fun q => s.heap.size ≤ q) s s.heap := by
  refine ⟨va_Zqof (hts _ hl) (hts (.initialized "java/lang/Throwable") (by decide +kernel)) h (fun a h1 h2 => Nat.not_le.mpr h1 h2), ?_⟩
  obtain ⟨c, k, i, f, a, cell, h1, h2, h3, h4, h5, h6, h7, h8, h9⟩ := Cond.laysStatic_spec (hts _ hl)
  exact ⟨c, k, i, f, a, cell, h1, h2, h3, h4, h5, h6, h7, h8, h9, fun z => Nat.not_le.mpr (Array.getElem?_eq_some_iff.mp h5).1 z⟩
theorem lw_th {b : Nat} {s : State} {D : va_G} {Ka : Nat → ClassId} (hK : va_K D rd_cl (rd_ty Ka) s) (hts : ∀ w ∈ lw_tbl, w.before #[Value.ref b] s = true) (hgv : (Jvm.Cond.and given_1 narrow_1).before #[Value.ref b] s = true) : rd_Th rd_ss (fun q => s.heap.size ≤ q) s s.heap := by
  have hf := flat_of_before _ hgv
  refine ⟨lw_St hts sl_0 (hf _ (by decide +kernel)), lw_St hts sl_1 (hf _ (by decide +kernel)), fun q hq => ?_, fun w hw => ⟨(ss_2 w hw).1, va_tabs (rd_nt (ss_2 w hw).1) rfl (hts w (ss_2 w hw).2)⟩, fun q hq => va_Nc.of (hf _ (ss_3 q hq))⟩
  obtain ⟨h1, h2⟩ := ss_1 q hq
  have hown : s.vm.findClass q.1 = some (D.1 0) := by rw [h2]; exact (hK.1 0 _ rfl).2.1
  obtain ⟨k, cf, i, a, -, -, -, -, -, hev⟩ := Cond.stringRef_spec hown (hts _ h1)
  exact ⟨a, vk_R.of (hts _ h1) hev⟩
set_option maxRecDepth 100000 in
set_option maxHeartbeats 4000000 in
theorem whole_start {p : Program} {e : Env} {s : State} {m : MethodId} {below : List Frame} {meth : Method} {c : Code} (l : Launch) (hls : l.stackTraces = false) {b Ln : Nat} {xs : Nat → Int32} (hpure : lf_W_law xs Ln 513 0 lw_0 = some 1) (C0 : lw_At p s m meth c b Ln xs) : W p l e room_1 s m #[Value.ref b] below meth c s.heap [] 0 0 (lw_Z below #[Value.ref b] s) (entryFrame m ([Value.ref b] : List Value).toArray 9) := by
  obtain ⟨hx, hb, hret, hml, hown, hts, hX, hbl, hlk, hgv⟩ := C0
  obtain ⟨D, Ka, hK⟩ := lw_know hts
  have hTh := lw_th hK hts hgv
  obtain ⟨a, hsz⟩ : ∃ a, s.heap.size = a := ⟨_, rfl⟩
  have ht : ∀ w ∈ rd_T, w.before #[Value.ref b] s = true := fun w h => hts w (rd_sub w h)
  have C9 : gC p c code 9 s m #[Value.ref b] "RegistryDeskLaw" rd_T D rd_cl (rd_ty Ka) g_ao a := by
    refine ⟨⟨hx, hb, hml, hown, ht⟩, hK, fun C hC => ?_, fun q h => by omega⟩
    rcases List.mem_cons.mp hC with rfl | hC
    · exact hts _ ov_Account
    rcases List.mem_cons.mp hC with rfl | hC
    · exact hts _ ov_Shelf
    rcases List.mem_cons.mp hC with rfl | hC
    · exact hts _ ov_Thing
    rcases List.mem_cons.mp hC with rfl | hC
    · exact hts _ ov_Row
    rcases List.mem_cons.mp hC with rfl | hC
    · exact hts _ ov_Domain
    cases hC
  have hW : gw D rd_cl a 0 (fun _ => .inr (0, [])) s.heap s.heap [] := ⟨fun k q hk => (by cases hk), va_S.rf⟩
  have hl := lv_entry ([.ref b]) (n := 9) (Nat.le_of_ble_eq_true rfl)
  rw [lg_entry_eq]
  generalize (lg_sl ([.ref b]) ++ List.replicate (9 - (lg_sl ([.ref b])).length) Slot.unset).toArray = ls at hl ⊢
  have hl : lv_has ls 9 [(0, .ref b)] := hl
  refine g_new C9 hW (by show s.heap.size + 0 = a + 0; omega) (fun _ => hsz) fi_K ft_K ft_K_ok l_W_8 it_K ii_K (ci := 0) rfl bl_K (Nat.le_of_ble_eq_true rfl) (Nat.le_of_ble_eq_true rfl) d_W_law_0 (fun H hW => ?_)
  have hW : gw D rd_cl a 1 _ s.heap H _ := hW
  refine lv_dup hx hb d_W_law_3 rfl ?_
  refine g_call (n := 0) (rest := [.ref (a + 0)]) rd_gd C9 hW (by show s.heap.size + 1 = a + 1; omega) (c_K_init l D Ka) rfl kc_K_init rfl ki_K_init l_W_90 ⟨Nat.le_of_ble_eq_true rfl, Nat.le_of_ble_eq_true rfl⟩ ⟨Nat.le_of_ble_eq_true rfl, Nat.le_of_ble_eq_true rfl⟩ hl.1 (Nat.le_of_ble_eq_true rfl) d_W_law_4 (fun H locs hW => ?_)
  have hW : gw D rd_cl a 117 _ s.heap H _ := hW
  refine lv_astore_n (lv' := [(1, .ref (a + 0)), (0, .ref b)]) hx hb d_W_law_7 rfl hl (by decide) rfl (fun ls hl => ?_)
  refine g_new C9 hW (by show s.heap.size + 117 = a + 117; omega) (fun h => absurd h (by decide)) fi_N ft_N ft_N_ok l_W_91 it_N ii_N (ci := 6) rfl bl_N (Nat.le_of_ble_eq_true rfl) (Nat.le_of_ble_eq_true rfl) d_W_law_8 (fun H hW => ?_)
  have hW : gw D rd_cl a 118 _ s.heap H _ := hW
  refine lv_dup hx hb d_W_law_11 rfl ?_
  refine g_call (n := 117) (rest := [.ref (a + 117)]) rd_gd C9 hW (by show s.heap.size + 118 = a + 118; omega) (c_N_init l D Ka) rfl kc_N_init rfl ki_N_init l_W_93 ⟨Nat.le_of_ble_eq_true rfl, Nat.le_of_ble_eq_true rfl⟩ ⟨Nat.le_of_ble_eq_true rfl, Nat.le_of_ble_eq_true rfl⟩ hl.1 (Nat.le_of_ble_eq_true rfl) d_W_law_12 (fun H locs hW => ?_)
  have hW : gw D rd_cl a 139 _ s.heap H _ := hW
  refine lv_astore_n (lv' := [(2, .ref (a + 117)), (1, .ref (a + 0)), (0, .ref b)]) hx hb d_W_law_15 rfl hl (by decide) rfl (fun ls hl => ?_)
  refine lv_iconst (v := 1) hx hb d_W_law_16 (by decide) ?_
  refine g_newa (atype := .long) (N := 1) (a0 := (1, .inr (.inl (fun _ => 0)))) C9 hW (by show s.heap.size + 139 = a + 139; omega) (fun h => absurd h (by decide)) ar_long (t0 := 1) rfl (by intro z h; cases h) (fun _ => rfl) (by decide) (by decide) (by decide) (Nat.le_of_ble_eq_true rfl) (Nat.le_of_ble_eq_true rfl) d_W_law_17 (fun H hW => ?_)
  have hW : gw D rd_cl a 140 _ s.heap H _ := hW
  refine lv_astore_n (lv' := [(3, .ref (a + 139)), (2, .ref (a + 117)), (1, .ref (a + 0)), (0, .ref b)]) hx hb d_W_law_19 rfl hl (by decide) rfl (fun ls hl => ?_)
  refine lv_iconst (v := 1) hx hb d_W_law_20 (by decide) ?_
  refine g_newa (atype := .double) (N := 1) (a0 := (1, .inr (.inr (.inr (.inl (fun _ => 0)))))) C9 hW (by show s.heap.size + 140 = a + 140; omega) (fun h => absurd h (by decide)) ar_double (t0 := 2) rfl (by intro z h; cases h) (fun _ => rfl) (by decide) (by decide) (by decide) (Nat.le_of_ble_eq_true rfl) (Nat.le_of_ble_eq_true rfl) d_W_law_21 (fun H hW => ?_)
  have hW : gw D rd_cl a 141 _ s.heap H _ := hW
  refine lv_astore (lv' := [(4, .ref (a + 140)), (3, .ref (a + 139)), (2, .ref (a + 117)), (1, .ref (a + 0)), (0, .ref b)]) hx hb d_W_law_23 hl (by decide) rfl (fun ls hl => ?_)
  refine lv_iconst (v := 0) hx hb d_W_law_25 (by decide) ?_
  refine lv_istore (lv' := [(5, .int 0), (4, .ref (a + 140)), (3, .ref (a + 139)), (2, .ref (a + 117)), (1, .ref (a + 0)), (0, .ref b)]) hx hb d_W_law_26 hl (by decide) rfl (fun ls hl => ?_)
  have hW9 : rd_W D rd_cl (lw_L Ka) (fun i => a + i) (fun q => s.heap.size ≤ q) s.heap lw_0 H locs := by
    refine ⟨?_, by rw [hsz]; exact hW.2⟩
    refine gl_ws (L := lw_L Ka) ?_
    refine gl_conv (fun k hk => Or.inl ?_) hW.1
    have hk : k < 141 := hk
    show _ = lw_c Ka (fun i => a + i) k (lw_0 k)
    unfold lw_c lw_0
    by_cases h1 : k < 117
    · have h2 : k ≠ 140 := by omega
      have h3 : k ≠ 139 := by omega
      have h5 : k ≠ 117 := by omega
      simp only [va_up, h1, h2, h3, h5, if_true, if_false, Nat.not_lt_zero, Nat.sub_zero]
      rfl
    · by_cases h4 : k < 139
      · have h2 : k ≠ 140 := by omega
        have h3 : k ≠ 139 := by omega
        simp only [va_up, h1, h2, h3, h4, if_true, if_false]
        show rm_c Ka (fun i => a + 117 + i) (k - 117) (rm_0 (k - 117)) = rm_c Ka (fun i => a + (117 + i)) (k - 117) (rm_0 (k - 117))
        simp only [Nat.add_assoc]
      · by_cases h3 : k = 139
        · subst h3; rfl
        · have h2 : k = 140 := by omega
          subst h2; rfl
  exact lw_loop hls ⟨C9.1, hK, fun i j _ _ h => by have h : a + i = a + j := h; omega, fun k _ => by show s.heap.size ≤ a + k; omega, fun q h => h⟩ hlk hret hTh hX hbl 513 0 lw_0 _ _ _ _ _ hpure (by decide) (by decide) hW9 hl
