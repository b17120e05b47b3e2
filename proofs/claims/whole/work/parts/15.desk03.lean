def lb_K_othersUseHostsUnder_2 (M : rd_M) (q1 : Int32) (Kf : Int32 → Option (Int32)) (rec : Int32 → Option (Int32)) (v2_2 : Int32) : Option (Int32) :=
  if 8 ≤ v2_2 then
    Kf v2_2
  else
    if rd_in q1 10 then
    (f_D_uses M q1.toNatClampNeg 1 v2_2).bind fun r3 =>
    rd_k (if r3 = 0 then 0 else 1 : Int32) fun z5 =>
    (f_S_liesUnder M 1 v2_2 q1).bind fun r6 =>
    if r6 = 0 then
      rec (v2_2 + 1)
    else
      (f_K_usesOf M 1 v2_2).bind fun r8 =>
      if r8 ≤ z5 then
        rec (v2_2 + 1)
      else
        some 1
    else none
def f_K_othersUseHostsUnder (M : rd_M) (p1 : Int32) : Option (Int32) :=
  rd_it (fun _ => none) (lb_K_othersUseHostsUnder_2 M p1 (fun w2_2 =>
    some 0)) 64 0
set_option maxRecDepth 100000 in
set_option maxHeartbeats 4000000 in
theorem c_K_othersUseHostsUnder {l : Launch} (hls : l.stackTraces = false) {D : va_G} {Ka : Nat → ClassId} {ad : Nat → Nat} {M : rd_M} (p1 : Int32)  {o : Int32} (hf : f_K_othersUseHostsUnder M p1 = some o) :
    rd_Met l y_K_othersUseHostsUnder b_K_othersUseHostsUnder 4 (some .boolean) (3, 68, 0, 0) rd_T rd_ss D rd_cl (rd_ty Ka) (dk_L Ka) ad M [.ref (ad 0), .int p1] (fun r M1 => r = some (.int o) ∧ M = M1) (fun _ => False) := by
  refine rd_body (by decide) (Nat.le_of_ble_eq_true rfl) ?_
  intro p e s m below meth c C9 hlk hret hnt hTh hW ls hl
  have hx := C9.1.1
  have hb := C9.1.2.1
  have hl : lv_has ls 4 [(0, .ref (ad 0)), (1, .int p1)] := hl
  unfold f_K_othersUseHostsUnder at hf
  refine lv_iconst (v := 0) hx hb d_K_othersUseHostsUnder_0 (by decide) ?_
  refine lv_istore_n (lv' := [(2, .int 0), (0, .ref (ad 0)), (1, .int p1)]) hx hb d_K_othersUseHostsUnder_1 rfl hl (by decide) rfl (fun ls hl => ?_)
  have loop_2 : ∀ (Kf : Int32 → Option (Int32)) (hk_2 : ∀ (w2_2 : Int32) (H : Heap) (locs : List Loc) (ls : Array Slot), Kf w2_2 = some o → rd_W D rd_cl (dk_L Ka) ad (rd_A (dk_L Ka) ad s.heap.size) s.heap M H locs → lv_has ls 4 [(2, .int w2_2), (0, .ref (ad 0)), (1, .int p1)] → W p l e { frames := 3, cells := 0, slots := 0, locals := 68 } s m [.ref (ad 0), .int p1].toArray below meth c H locs 0 0 (rd_Z below (rd_O D rd_cl (dk_L Ka) ad M (rd_A (dk_L Ka) ad s.heap.size) 0 0 (fun r M1 => r = some (.int o) ∧ M = M1) (fun _ => False)) s) (F0 m 60 ls [])) (fu : Nat) (v2_2 : Int32) (H : Heap) (locs : List Loc) (ls : Array Slot), rd_it (fun _ => none) (lb_K_othersUseHostsUnder_2 M p1 Kf) fu v2_2 = some o → rd_W D rd_cl (dk_L Ka) ad (rd_A (dk_L Ka) ad s.heap.size) s.heap M H locs → lv_has ls 4 [(2, .int v2_2), (0, .ref (ad 0)), (1, .int p1)] → W p l e { frames := 3, cells := 0, slots := 0, locals := 68 } s m [.ref (ad 0), .int p1].toArray below meth c H locs 0 0 (rd_Z below (rd_O D rd_cl (dk_L Ka) ad M (rd_A (dk_L Ka) ad s.heap.size) 0 0 (fun r M1 => r = some (.int o) ∧ M = M1) (fun _ => False)) s) (F0 m 2 ls []) := by
    intro Kf hk_2 fu
    induction fu with
    | zero => intro _ H locs ls hf; exact (rd_nf hf).elim
    | succ fu ih_2 =>
      intro v2_2 H locs ls hf hW hl
      rw [rd_it_s] at hf
      unfold lb_K_othersUseHostsUnder_2 at hf
      refine lv_iload_n hx hb d_K_othersUseHostsUnder_2 rfl (lv_at hl 0 rfl) ?_
      refine lv_bipush (v := 8) hx hb d_K_othersUseHostsUnder_3 (by decide) ?_
      refine lv_icmp_ge (tgt := 60) hx hb d_K_othersUseHostsUnder_5 (by decide) (fun c10 => ?_) (fun c10 => ?_)
      · have hf := rd_t hf c10
        exact hk_2 _ _ _ _ hf hW (lv_sub hl [0, 1, 2] rfl)
      · have hf := rd_f hf c10
        refine lv_aload_n hx hb d_K_othersUseHostsUnder_8 rfl (lv_at hl 1 rfl) ?_
        refine gf_K_domains C9 hW l_K_29 d_K_othersUseHostsUnder_9 ?_
        refine lv_iload_n hx hb d_K_othersUseHostsUnder_12 rfl (lv_at hl 2 rfl) ?_
        obtain ⟨g11, hf⟩ := rd_g hf
        refine al_domains C9 hW rfl g11 d_K_othersUseHostsUnder_13 ?_
        refine lv_iconst (v := 1) hx hb d_K_othersUseHostsUnder_14 (by decide) ?_
        refine lv_iload_n hx hb d_K_othersUseHostsUnder_15 rfl (lv_at hl 0 rfl) ?_
        obtain ⟨r12, qr12, hf⟩ := rd_bind hf
        refine rd_callV (As := [.int 1, .int v2_2]) (rest := []) rd_gd C9 hTh hW (c_D_uses hls p1.toNatClampNeg 1 v2_2 (rd_lt g11) qr12) kc_D_uses ki_D_uses ks_D_uses l_K_346 rfl (lt_D (rd_lt g11)) (ce_D (rd_lt g11)) rfl ⟨Nat.le_of_ble_eq_true rfl, Nat.le_of_ble_eq_true rfl⟩ ⟨Nat.le_of_ble_eq_true rfl, Nat.le_of_ble_eq_true rfl⟩ hl.1 rfl (Nat.le_of_ble_eq_true rfl) d_K_othersUseHostsUnder_16 (fun E _ _ _ _ hex => hex.elim) (fun rr MM H locs hp hW => ?_)
        obtain ⟨rfl, rfl⟩ := hp
        obtain ⟨z14, hz14, hf⟩ := rd_k_el hf
        refine rd_sel z14 (fun z => F0 m 27 ls (.int z :: [])) hz14 (fun hJ => ?_) ?_
        · refine lv_if_eq (tgt := 26) hx hb d_K_othersUseHostsUnder_19 (by decide) (fun c13 => ?_) (fun c13 => ?_)
          · have hJ := rd_selt (g := (fun z => F0 m 27 ls (.int z :: []))) hJ c13
            refine lv_iconst (v := 0) hx hb d_K_othersUseHostsUnder_26 (by decide) ?_
            exact hJ
          · have hJ := rd_self (g := (fun z => F0 m 27 ls (.int z :: []))) hJ c13
            refine lv_iconst (v := 1) hx hb d_K_othersUseHostsUnder_22 (by decide) ?_
            refine lv_goto (tgt := 27) hx hb d_K_othersUseHostsUnder_23 (by decide) ?_
            exact hJ
        refine lv_istore_n (lv' := [(3, .int z14), (2, .int v2_2), (0, .ref (ad 0)), (1, .int p1)]) hx hb d_K_othersUseHostsUnder_27 rfl hl (by decide) rfl (fun ls hl => ?_)
        refine lv_aload_n hx hb d_K_othersUseHostsUnder_28 rfl (lv_at hl 2 rfl) ?_
        refine gf_K_shelves C9 hW l_K_22 d_K_othersUseHostsUnder_29 ?_
        refine lv_iconst (v := 1) hx hb d_K_othersUseHostsUnder_32 (by decide) ?_
        refine al_shelves C9 hW (i := 1) (by decide) (show rd_in 1 2 by decide) d_K_othersUseHostsUnder_33 ?_
        refine lv_iload_n hx hb d_K_othersUseHostsUnder_34 rfl (lv_at hl 1 rfl) ?_
        refine lv_iload_n hx hb d_K_othersUseHostsUnder_35 rfl (lv_at hl 3 rfl) ?_
        obtain ⟨r15, qr15, hf⟩ := rd_bind hf
        refine rd_callV (As := [.int v2_2, .int p1]) (rest := []) rd_gd C9 hTh hW (c_S_liesUnder hls 1 v2_2 p1 (by decide) qr15) kc_S_liesUnder ki_S_liesUnder ks_S_liesUnder l_K_340 rfl (lt_S (by decide)) (ce_S (by decide)) rfl ⟨Nat.le_of_ble_eq_true rfl, Nat.le_of_ble_eq_true rfl⟩ ⟨Nat.le_of_ble_eq_true rfl, Nat.le_of_ble_eq_true rfl⟩ hl.1 rfl (Nat.le_of_ble_eq_true rfl) d_K_othersUseHostsUnder_36 (fun E _ _ _ _ hex => hex.elim) (fun rr MM H locs hp hW => ?_)
        obtain ⟨rfl, rfl⟩ := hp
        refine lv_if_eq (tgt := 54) hx hb d_K_othersUseHostsUnder_39 (by decide) (fun c16 => ?_) (fun c16 => ?_)
        · have hf := rd_t hf c16
          refine lv_iinc (v := v2_2 + 1) (lv' := [(2, .int (v2_2 + 1)), (3, .int z14), (0, .ref (ad 0)), (1, .int p1)]) hx hb d_K_othersUseHostsUnder_54 hl (k := 1) rfl rfl (by decide) rfl (fun ls hl => ?_)
          refine lv_goto (tgt := 2) hx hb d_K_othersUseHostsUnder_57 (by decide) ?_
          exact ih_2 _ _ _ _ hf hW (lv_sub hl [0, 2, 3] rfl)
        · have hf := rd_f hf c16
          refine lv_aload_n hx hb d_K_othersUseHostsUnder_42 rfl (lv_at hl 2 rfl) ?_
          refine lv_iconst (v := 1) hx hb d_K_othersUseHostsUnder_43 (by decide) ?_
          refine lv_iload_n hx hb d_K_othersUseHostsUnder_44 rfl (lv_at hl 1 rfl) ?_
          obtain ⟨r17, qr17, hf⟩ := rd_bind hf
          refine rd_callV (As := [.int 1, .int v2_2]) (rest := []) rd_gd C9 hTh hW (c_K_usesOf hls 1 v2_2 qr17) kc_K_usesOf ki_K_usesOf ks_K_usesOf l_K_83 rfl (lt_K) (ce_K) rfl ⟨Nat.le_of_ble_eq_true rfl, Nat.le_of_ble_eq_true rfl⟩ ⟨Nat.le_of_ble_eq_true rfl, Nat.le_of_ble_eq_true rfl⟩ hl.1 rfl (Nat.le_of_ble_eq_true rfl) d_K_othersUseHostsUnder_45 (fun E _ _ _ _ hex => hex.elim) (fun rr MM H locs hp hW => ?_)
          obtain ⟨rfl, rfl⟩ := hp
          refine lv_iload_n hx hb d_K_othersUseHostsUnder_48 rfl (lv_at hl 0 rfl) ?_
          refine lv_icmp_le (tgt := 54) hx hb d_K_othersUseHostsUnder_49 (by decide) (fun c18 => ?_) (fun c18 => ?_)
          · have hf := rd_t hf c18
            refine lv_iinc (v := v2_2 + 1) (lv' := [(2, .int (v2_2 + 1)), (3, .int z14), (0, .ref (ad 0)), (1, .int p1)]) hx hb d_K_othersUseHostsUnder_54 hl (k := 1) rfl rfl (by decide) rfl (fun ls hl => ?_)
            refine lv_goto (tgt := 2) hx hb d_K_othersUseHostsUnder_57 (by decide) ?_
            exact ih_2 _ _ _ _ hf hW (lv_sub hl [0, 2, 3] rfl)
          · have hf := rd_f hf c18
            refine lv_iconst (v := 1) hx hb d_K_othersUseHostsUnder_52 (by decide) ?_
            obtain rfl := Option.some.inj hf
            exact rd_zret C9 hlk hret hW (Or.inr rfl) ⟨rfl, rfl⟩ (by decide) (by decide) d_K_othersUseHostsUnder_53
  refine loop_2 _ ?_ 64 _ _ _ _ hf hW (lv_sub hl [0, 1, 2] rfl)
  intro w2_2 H locs ls hf hW hl
  refine lv_iconst (v := 0) hx hb d_K_othersUseHostsUnder_60 (by decide) ?_
  obtain rfl := Option.some.inj hf
  exact rd_zret C9 hlk hret hW (Or.inl rfl) ⟨rfl, rfl⟩ (by decide) (by decide) d_K_othersUseHostsUnder_61
def lb_K_dropHost_17 (q1 : Int32) (Kf : Int32 → rd_M → Option (rd_M)) (rec : Int32 → rd_M → Option (rd_M)) (v17_2 : Int32) (v17_M : rd_M) : Option (rd_M) :=
  if 10 ≤ v17_2 then
    Kf v17_2 v17_M
  else
    if rd_in v17_2 10 then
    (f_R_takeOff v17_M v17_2.toNatClampNeg 1 q1).bind fun r5 =>
    rec (v17_2 + 1) r5
    else none
def f_K_dropHost (M : rd_M) (p1 : Int32) : Option (rd_M) :=
  if rd_in p1 8 then
  rd_k (rd_iU M (18 + 10 * 1 + p1.toNatClampNeg) 0 0) fun M2 =>
  rd_it (fun _ _ => none) (lb_K_dropHost_17 p1 (fun w17_2 w17_M =>
    some w17_M)) 64 0 M2
  else none
set_option maxRecDepth 100000 in
set_option maxHeartbeats 4000000 in
theorem c_K_dropHost {l : Launch} (hls : l.stackTraces = false) {D : va_G} {Ka : Nat → ClassId} {ad : Nat → Nat} {M : rd_M} (p1 : Int32)  {o : rd_M} (hf : f_K_dropHost M p1 = some o) :
    rd_Met l y_K_dropHost b_K_dropHost 3 none (2, 45, 0, 0) rd_T rd_ss D rd_cl (rd_ty Ka) (dk_L Ka) ad M [.ref (ad 0), .int p1] (fun r M1 => r = none ∧ o = M1) (fun _ => False) := by
  refine rd_body (by decide) (Nat.le_of_ble_eq_true rfl) ?_
  intro p e s m below meth c C9 hlk hret hnt hTh hW ls hl
  have hx := C9.1.1
  have hb := C9.1.2.1
  have hl : lv_has ls 3 [(0, .ref (ad 0)), (1, .int p1)] := hl
  unfold f_K_dropHost at hf
  refine lv_aload_n hx hb d_K_dropHost_0 rfl (lv_at hl 0 rfl) ?_
  refine gf_K_shelves C9 hW l_K_22 d_K_dropHost_1 ?_
  refine lv_iconst (v := 1) hx hb d_K_dropHost_4 (by decide) ?_
  refine al_shelves C9 hW (i := 1) (by decide) (show rd_in 1 2 by decide) d_K_dropHost_5 ?_
  refine gf_S_things C9 hW (by decide) l_K_290 d_K_dropHost_6 ?_
  refine lv_iload_n hx hb d_K_dropHost_9 rfl (lv_at hl 1 rfl) ?_
  obtain ⟨g1, hf⟩ := rd_g hf
  refine al_things C9 hW (by decide) rfl g1 d_K_dropHost_10 ?_
  refine lv_iconst (v := 0) hx hb d_K_dropHost_11 (by decide) ?_
  refine pf_T_there C9 hW (by decide) (rd_lt g1) (Or.inl rfl) l_K_94 d_K_dropHost_12 (fun H locs hW => ?_)
  obtain ⟨M2, hM2, hf⟩ := rd_k_el hf
  rw [← hM2] at hW
  refine lv_iconst (v := 0) hx hb d_K_dropHost_15 (by decide) ?_
  refine lv_istore_n (lv' := [(2, .int 0), (0, .ref (ad 0)), (1, .int p1)]) hx hb d_K_dropHost_16 rfl hl (by decide) rfl (fun ls hl => ?_)
  have loop_17 : ∀ (Kf : Int32 → rd_M → Option (rd_M)) (hk_17 : ∀ (w17_2 : Int32) (w17_M : rd_M) (H : Heap) (locs : List Loc) (ls : Array Slot), Kf w17_2 w17_M = some o → rd_W D rd_cl (dk_L Ka) ad (rd_A (dk_L Ka) ad s.heap.size) s.heap w17_M H locs → lv_has ls 3 [(2, .int w17_2), (0, .ref (ad 0)), (1, .int p1)] → W p l e { frames := 2, cells := 0, slots := 0, locals := 45 } s m [.ref (ad 0), .int p1].toArray below meth c H locs 0 0 (rd_Z below (rd_O D rd_cl (dk_L Ka) ad M (rd_A (dk_L Ka) ad s.heap.size) 0 0 (fun r M1 => r = none ∧ o = M1) (fun _ => False)) s) (F0 m 44 ls [])) (fu : Nat) (v17_2 : Int32) (v17_M : rd_M) (H : Heap) (locs : List Loc) (ls : Array Slot), rd_it (fun _ _ => none) (lb_K_dropHost_17 p1 Kf) fu v17_2 v17_M = some o → rd_W D rd_cl (dk_L Ka) ad (rd_A (dk_L Ka) ad s.heap.size) s.heap v17_M H locs → lv_has ls 3 [(2, .int v17_2), (0, .ref (ad 0)), (1, .int p1)] → W p l e { frames := 2, cells := 0, slots := 0, locals := 45 } s m [.ref (ad 0), .int p1].toArray below meth c H locs 0 0 (rd_Z below (rd_O D rd_cl (dk_L Ka) ad M (rd_A (dk_L Ka) ad s.heap.size) 0 0 (fun r M1 => r = none ∧ o = M1) (fun _ => False)) s) (F0 m 17 ls []) := by
    intro Kf hk_17 fu
    induction fu with
    | zero => intro _ _ H locs ls hf; exact (rd_nf hf).elim
    | succ fu ih_17 =>
      intro v17_2 v17_M H locs ls hf hW hl
      rw [rd_it_s] at hf
      unfold lb_K_dropHost_17 at hf
      refine lv_iload_n hx hb d_K_dropHost_17 rfl (lv_at hl 0 rfl) ?_
      refine lv_bipush (v := 10) hx hb d_K_dropHost_18 (by decide) ?_
      refine lv_icmp_ge (tgt := 44) hx hb d_K_dropHost_20 (by decide) (fun c6 => ?_) (fun c6 => ?_)
      · have hf := rd_t hf c6
        exact hk_17 _ _ _ _ _ hf hW (lv_sub hl [0, 1, 2] rfl)
      · have hf := rd_f hf c6
        refine lv_aload_n hx hb d_K_dropHost_23 rfl (lv_at hl 1 rfl) ?_
        refine gf_K_domains C9 hW l_K_29 d_K_dropHost_24 ?_
        refine lv_iload_n hx hb d_K_dropHost_27 rfl (lv_at hl 0 rfl) ?_
        obtain ⟨g7, hf⟩ := rd_g hf
        refine al_domains C9 hW rfl g7 d_K_dropHost_28 ?_
        refine gf_D_rows C9 hW (rd_lt g7) l_K_130 d_K_dropHost_29 ?_
        refine lv_iconst (v := 1) hx hb d_K_dropHost_32 (by decide) ?_
        refine al_rows C9 hW (rd_lt g7) (i := 1) (by decide) (show rd_in 1 2 by decide) d_K_dropHost_33 ?_
        refine lv_iload_n hx hb d_K_dropHost_34 rfl (lv_at hl 2 rfl) ?_
        obtain ⟨r8, qr8, hf⟩ := rd_bind hf
        refine rd_callV (As := [.int p1]) (rest := []) rd_gd C9 hTh hW (c_R_takeOff hls v17_2.toNatClampNeg 1 p1 (rd_lt g7) (by decide) qr8) kc_R_takeOff ki_R_takeOff ks_R_takeOff l_K_147 rfl (lt_R (rd_lt g7) (by decide)) (ce_R (rd_lt g7) (by decide)) rfl ⟨Nat.le_of_ble_eq_true rfl, Nat.le_of_ble_eq_true rfl⟩ ⟨Nat.le_of_ble_eq_true rfl, Nat.le_of_ble_eq_true rfl⟩ hl.1 rfl (Nat.le_of_ble_eq_true rfl) d_K_dropHost_35 (fun E _ _ _ _ hex => hex.elim) (fun rr MM H locs hp hW => ?_)
        obtain ⟨rfl, rfl⟩ := hp
        refine lv_iinc (v := v17_2 + 1) (lv' := [(2, .int (v17_2 + 1)), (0, .ref (ad 0)), (1, .int p1)]) hx hb d_K_dropHost_38 hl (k := 0) rfl rfl (by decide) rfl (fun ls hl => ?_)
        refine lv_goto (tgt := 17) hx hb d_K_dropHost_41 (by decide) ?_
        exact ih_17 _ _ _ _ _ hf hW (lv_sub hl [0, 1, 2] rfl)
  refine loop_17 _ ?_ 64 _ _ _ _ _ hf hW (lv_sub hl [0, 1, 2] rfl)
  intro w17_2 w17_M H locs ls hf hW hl
  obtain rfl := Option.some.inj hf
  exact rd_vret C9 hlk hret hW ⟨rfl, rfl⟩ (by decide) (by decide) d_K_dropHost_44
def lb_K_dropDomain_12 (q1 : Int32) (Kf : Int32 → rd_M → Option (rd_M)) (rec : Int32 → rd_M → Option (rd_M)) (v12_2 : Int32) (v12_M : rd_M) : Option (rd_M) :=
  if 8 ≤ v12_2 then
    Kf v12_2 v12_M
  else
    (f_S_liesUnder v12_M 1 v12_2 q1).bind fun r4 =>
    if r4 = 0 then
      rec (v12_2 + 1) v12_M
    else
      (f_K_dropHost v12_M v12_2).bind fun r6 =>
      rec (v12_2 + 1) r6
def f_K_dropDomain (M : rd_M) (p1 : Int32) : Option (rd_M) :=
  if rd_in p1 10 then
  rd_k (rd_iU M (37 + 8 * p1.toNatClampNeg) 3 0) fun M2 =>
  rd_it (fun _ _ => none) (lb_K_dropDomain_12 p1 (fun w12_2 w12_M =>
    some w12_M)) 64 0 M2
  else none
set_option maxRecDepth 100000 in
set_option maxHeartbeats 4000000 in
theorem c_K_dropDomain {l : Launch} (hls : l.stackTraces = false) {D : va_G} {Ka : Nat → ClassId} {ad : Nat → Nat} {M : rd_M} (p1 : Int32)  {o : rd_M} (hf : f_K_dropDomain M p1 = some o) :
    rd_Met l y_K_dropDomain b_K_dropDomain 3 none (3, 67, 0, 0) rd_T rd_ss D rd_cl (rd_ty Ka) (dk_L Ka) ad M [.ref (ad 0), .int p1] (fun r M1 => r = none ∧ o = M1) (fun _ => False) := by
  refine rd_body (by decide) (Nat.le_of_ble_eq_true rfl) ?_
  intro p e s m below meth c C9 hlk hret hnt hTh hW ls hl
  have hx := C9.1.1
  have hb := C9.1.2.1
  have hl : lv_has ls 3 [(0, .ref (ad 0)), (1, .int p1)] := hl
  unfold f_K_dropDomain at hf
  refine lv_aload_n hx hb d_K_dropDomain_0 rfl (lv_at hl 0 rfl) ?_
  refine gf_K_domains C9 hW l_K_29 d_K_dropDomain_1 ?_
  refine lv_iload_n hx hb d_K_dropDomain_4 rfl (lv_at hl 1 rfl) ?_
  obtain ⟨g1, hf⟩ := rd_g hf
  refine al_domains C9 hW rfl g1 d_K_dropDomain_5 ?_
  refine lv_iconst (v := 0) hx hb d_K_dropDomain_6 (by decide) ?_
  refine pf_D_there C9 hW (rd_lt g1) (Or.inl rfl) l_K_105 d_K_dropDomain_7 (fun H locs hW => ?_)
  obtain ⟨M2, hM2, hf⟩ := rd_k_el hf
  rw [← hM2] at hW
  refine lv_iconst (v := 0) hx hb d_K_dropDomain_10 (by decide) ?_
  refine lv_istore_n (lv' := [(2, .int 0), (0, .ref (ad 0)), (1, .int p1)]) hx hb d_K_dropDomain_11 rfl hl (by decide) rfl (fun ls hl => ?_)
  have loop_12 : ∀ (Kf : Int32 → rd_M → Option (rd_M)) (hk_12 : ∀ (w12_2 : Int32) (w12_M : rd_M) (H : Heap) (locs : List Loc) (ls : Array Slot), Kf w12_2 w12_M = some o → rd_W D rd_cl (dk_L Ka) ad (rd_A (dk_L Ka) ad s.heap.size) s.heap w12_M H locs → lv_has ls 3 [(2, .int w12_2), (0, .ref (ad 0)), (1, .int p1)] → W p l e { frames := 3, cells := 0, slots := 0, locals := 67 } s m [.ref (ad 0), .int p1].toArray below meth c H locs 0 0 (rd_Z below (rd_O D rd_cl (dk_L Ka) ad M (rd_A (dk_L Ka) ad s.heap.size) 0 0 (fun r M1 => r = none ∧ o = M1) (fun _ => False)) s) (F0 m 43 ls [])) (fu : Nat) (v12_2 : Int32) (v12_M : rd_M) (H : Heap) (locs : List Loc) (ls : Array Slot), rd_it (fun _ _ => none) (lb_K_dropDomain_12 p1 Kf) fu v12_2 v12_M = some o → rd_W D rd_cl (dk_L Ka) ad (rd_A (dk_L Ka) ad s.heap.size) s.heap v12_M H locs → lv_has ls 3 [(2, .int v12_2), (0, .ref (ad 0)), (1, .int p1)] → W p l e { frames := 3, cells := 0, slots := 0, locals := 67 } s m [.ref (ad 0), .int p1].toArray below meth c H locs 0 0 (rd_Z below (rd_O D rd_cl (dk_L Ka) ad M (rd_A (dk_L Ka) ad s.heap.size) 0 0 (fun r M1 => r = none ∧ o = M1) (fun _ => False)) s) (F0 m 12 ls []) := by
    intro Kf hk_12 fu
    induction fu with
    | zero => intro _ _ H locs ls hf; exact (rd_nf hf).elim
    | succ fu ih_12 =>
      intro v12_2 v12_M H locs ls hf hW hl
      rw [rd_it_s] at hf
      unfold lb_K_dropDomain_12 at hf
      refine lv_iload_n hx hb d_K_dropDomain_12 rfl (lv_at hl 0 rfl) ?_
      refine lv_bipush (v := 8) hx hb d_K_dropDomain_13 (by decide) ?_
      refine lv_icmp_ge (tgt := 43) hx hb d_K_dropDomain_15 (by decide) (fun c7 => ?_) (fun c7 => ?_)
      · have hf := rd_t hf c7
        exact hk_12 _ _ _ _ _ hf hW (lv_sub hl [0, 1, 2] rfl)
      · have hf := rd_f hf c7
        refine lv_aload_n hx hb d_K_dropDomain_18 rfl (lv_at hl 1 rfl) ?_
        refine gf_K_shelves C9 hW l_K_22 d_K_dropDomain_19 ?_
        refine lv_iconst (v := 1) hx hb d_K_dropDomain_22 (by decide) ?_
        refine al_shelves C9 hW (i := 1) (by decide) (show rd_in 1 2 by decide) d_K_dropDomain_23 ?_
        refine lv_iload_n hx hb d_K_dropDomain_24 rfl (lv_at hl 0 rfl) ?_
        refine lv_iload_n hx hb d_K_dropDomain_25 rfl (lv_at hl 2 rfl) ?_
        obtain ⟨r8, qr8, hf⟩ := rd_bind hf
        refine rd_callV (As := [.int v12_2, .int p1]) (rest := []) rd_gd C9 hTh hW (c_S_liesUnder hls 1 v12_2 p1 (by decide) qr8) kc_S_liesUnder ki_S_liesUnder ks_S_liesUnder l_K_340 rfl (lt_S (by decide)) (ce_S (by decide)) rfl ⟨Nat.le_of_ble_eq_true rfl, Nat.le_of_ble_eq_true rfl⟩ ⟨Nat.le_of_ble_eq_true rfl, Nat.le_of_ble_eq_true rfl⟩ hl.1 rfl (Nat.le_of_ble_eq_true rfl) d_K_dropDomain_26 (fun E _ _ _ _ hex => hex.elim) (fun rr MM H locs hp hW => ?_)
        obtain ⟨rfl, rfl⟩ := hp
        refine lv_if_eq (tgt := 37) hx hb d_K_dropDomain_29 (by decide) (fun c9 => ?_) (fun c9 => ?_)
        · have hf := rd_t hf c9
          refine lv_iinc (v := v12_2 + 1) (lv' := [(2, .int (v12_2 + 1)), (0, .ref (ad 0)), (1, .int p1)]) hx hb d_K_dropDomain_37 hl (k := 0) rfl rfl (by decide) rfl (fun ls hl => ?_)
          refine lv_goto (tgt := 12) hx hb d_K_dropDomain_40 (by decide) ?_
          exact ih_12 _ _ _ _ _ hf hW (lv_sub hl [0, 1, 2] rfl)
        · have hf := rd_f hf c9
          refine lv_aload_n hx hb d_K_dropDomain_32 rfl (lv_at hl 1 rfl) ?_
          refine lv_iload_n hx hb d_K_dropDomain_33 rfl (lv_at hl 0 rfl) ?_
          obtain ⟨r10, qr10, hf⟩ := rd_bind hf
          refine rd_callV (As := [.int v12_2]) (rest := []) rd_gd C9 hTh hW (c_K_dropHost hls v12_2 qr10) kc_K_dropHost ki_K_dropHost ks_K_dropHost l_K_343 rfl (lt_K) (ce_K) rfl ⟨Nat.le_of_ble_eq_true rfl, Nat.le_of_ble_eq_true rfl⟩ ⟨Nat.le_of_ble_eq_true rfl, Nat.le_of_ble_eq_true rfl⟩ hl.1 rfl (Nat.le_of_ble_eq_true rfl) d_K_dropDomain_34 (fun E _ _ _ _ hex => hex.elim) (fun rr MM H locs hp hW => ?_)
          obtain ⟨rfl, rfl⟩ := hp
          refine lv_iinc (v := v12_2 + 1) (lv' := [(2, .int (v12_2 + 1)), (0, .ref (ad 0)), (1, .int p1)]) hx hb d_K_dropDomain_37 hl (k := 0) rfl rfl (by decide) rfl (fun ls hl => ?_)
          refine lv_goto (tgt := 12) hx hb d_K_dropDomain_40 (by decide) ?_
          exact ih_12 _ _ _ _ _ hf hW (lv_sub hl [0, 1, 2] rfl)
  refine loop_12 _ ?_ 64 _ _ _ _ _ hf hW (lv_sub hl [0, 1, 2] rfl)
  intro w12_2 w12_M H locs ls hf hW hl
  obtain rfl := Option.some.inj hf
  exact rd_vret C9 hlk hret hW ⟨rfl, rfl⟩ (by decide) (by decide) d_K_dropDomain_43
def f_K_delete (M : rd_M) (p1 : Int32) (p2 : Int32) : Option (String ⊕ (Int32 × rd_M)) :=
  rd_b (f_K_requireRegistrar M p1) fun r1 =>
  rd_b (f_K_requireName M p2) fun r2 =>
  rd_b (f_K_domainThere M p2) fun r3 =>
  rd_b (f_K_requireOwner M ((M (37 + 8 * r3)).1 4) p1) fun r4 =>
  rd_b (f_K_requireState M r3 0) fun r5 =>
  rd_b (f_K_requireUnlocked M r3 2) fun r6 =>
  rd_b (f_K_requireNoTransfer M r3) fun r7 =>
  (f_K_othersUseHostsUnder M p2).bind fun r8 =>
  if r8 = 0 then
    if rd_in p1 4 then
    (f_D_graceCosts M r3 ((M 0).1 4)).bind fun r11 =>
    if rd_nn (FP.dadd ((M (3 + 3 * p1.toNatClampNeg)).2.2 2) r11) then
    rd_k (rd_dU M (3 + 3 * p1.toNatClampNeg) 2 (FP.dadd ((M (3 + 3 * p1.toNatClampNeg)).2.2 2) r11)) fun M12 =>
    (f_D_graceIsOn M12 r3 0 ((M12 0).1 4)).bind fun r13 =>
    if r13 = 0 then
      (f_D_graceIsOn M12 r3 4 ((M12 0).1 4)).bind fun r15 =>
      if r15 = 0 then
        (f_D_clearGraces M12 r3).bind fun r17 =>
        (f_D_enter r17 r3 1 (((r17 0).1 4) + 5)).bind fun r18 =>
        some (.inr (1, r18))
      else
        rd_k (rd_iU M12 (37 + 8 * r3) 5 (((M12 (37 + 8 * r3)).1 5) - 10)) fun M19 =>
        (f_D_clearGraces M19 r3).bind fun r20 =>
        (f_D_enter r20 r3 1 (((r20 0).1 4) + 5)).bind fun r21 =>
        some (.inr (1, r21))
    else
      (f_K_dropDomain M12 p2).bind fun r22 =>
      some (.inr (2, r22))
    else none
    else none
  else
    some (.inl "java/lang/IllegalStateException")
set_option maxRecDepth 100000 in
set_option maxHeartbeats 4000000 in
theorem c_K_delete {l : Launch} (hls : l.stackTraces = false) {D : va_G} {Ka : Nat → ClassId} {ad : Nat → Nat} {M : rd_M} (p1 : Int32) (p2 : Int32)  {o : String ⊕ (Int32 × rd_M)} (hf : f_K_delete M p1 p2 = some o) :
    rd_Met l y_K_delete b_K_delete 4 (some .int) (8, 132, 8, 48) rd_T rd_ss D rd_cl (rd_ty Ka) (dk_L Ka) ad M [.ref (ad 0), .int p1, .int p2] (fun r M1 => ∃ v, o = .inr v ∧ r = some (.int v.1) ∧ v.2 = M1) (fun E => o = .inl E) := by
  refine rd_body (by decide) (Nat.le_of_ble_eq_true rfl) ?_
  intro p e s m below meth c C9 hlk hret hnt hTh hW ls hl
  have hx := C9.1.1
  have hb := C9.1.2.1
  have hl : lv_has ls 4 [(0, .ref (ad 0)), (1, .int p1), (2, .int p2)] := hl
  unfold f_K_delete at hf
  refine lv_iload_n hx hb d_K_delete_0 rfl (lv_at hl 1 rfl) ?_
  obtain ⟨or1, qr1, xr1, vr1⟩ := rd_b_run hf
  refine rd_callS (As := [.int p1]) (rest := []) rd_gd C9 hTh hW (c_K_requireRegistrar hls p1 qr1) kc_K_requireRegistrar ki_K_requireRegistrar l_K_46 rfl ⟨Nat.le_of_ble_eq_true rfl, Nat.le_of_ble_eq_true rfl⟩ ⟨Nat.le_of_ble_eq_true rfl, Nat.le_of_ble_eq_true rfl⟩ hl.1 rfl (Nat.le_of_ble_eq_true rfl) d_K_delete_1 (fun E ce q9 H locs hex hW h1 h2 h3 => rd_out hnt hlk hW (xr1 E hex) h1 h2 h3 (by decide) (by decide)) (fun rr MM H locs hp hW => ?_)
  obtain ⟨r1, er1, rfl, rfl⟩ := hp
  have hf := vr1 _ er1
  refine lv_iload_n hx hb d_K_delete_4 rfl (lv_at hl 2 rfl) ?_
  obtain ⟨or2, qr2, xr2, vr2⟩ := rd_b_run hf
  refine rd_callS (As := [.int p2]) (rest := []) rd_gd C9 hTh hW (c_K_requireName hls p2 qr2) kc_K_requireName ki_K_requireName l_K_102 rfl ⟨Nat.le_of_ble_eq_true rfl, Nat.le_of_ble_eq_true rfl⟩ ⟨Nat.le_of_ble_eq_true rfl, Nat.le_of_ble_eq_true rfl⟩ hl.1 rfl (Nat.le_of_ble_eq_true rfl) d_K_delete_5 (fun E ce q9 H locs hex hW h1 h2 h3 => rd_out hnt hlk hW (xr2 E hex) h1 h2 h3 (by decide) (by decide)) (fun rr MM H locs hp hW => ?_)
  obtain ⟨r2, er2, rfl, rfl⟩ := hp
  have hf := vr2 _ er2
  refine lv_aload_n hx hb d_K_delete_8 rfl (lv_at hl 0 rfl) ?_
  refine lv_iload_n hx hb d_K_delete_9 rfl (lv_at hl 2 rfl) ?_
  obtain ⟨or3, qr3, xr3, vr3⟩ := rd_b_run hf
  refine rd_callV (As := [.int p2]) (rest := []) rd_gd C9 hTh hW (c_K_domainThere hls p2 qr3) kc_K_domainThere ki_K_domainThere ks_K_domainThere l_K_65 rfl (lt_K) (ce_K) rfl ⟨Nat.le_of_ble_eq_true rfl, Nat.le_of_ble_eq_true rfl⟩ ⟨Nat.le_of_ble_eq_true rfl, Nat.le_of_ble_eq_true rfl⟩ hl.1 rfl (Nat.le_of_ble_eq_true rfl) d_K_delete_10 (fun E ce q9 H locs hex hW h1 h2 h3 => rd_out hnt hlk hW (xr3 E hex) h1 h2 h3 (by decide) (by decide)) (fun rr MM H locs hp hW => ?_)
  obtain ⟨r3, er3, rfl, rfl, br3_0⟩ := hp
  have hf := vr3 _ er3
  refine lv_astore_n (lv' := [(3, .ref (ad (37 + 8 * r3))), (0, .ref (ad 0)), (1, .int p1), (2, .int p2)]) hx hb d_K_delete_13 rfl hl (by decide) rfl (fun ls hl => ?_)
  refine lv_aload_n hx hb d_K_delete_14 rfl (lv_at hl 0 rfl) ?_
  refine gf_D_owner C9 hW br3_0 l_K_69 d_K_delete_15 ?_
  refine lv_iload_n hx hb d_K_delete_18 rfl (lv_at hl 2 rfl) ?_
  obtain ⟨or4, qr4, xr4, vr4⟩ := rd_b_run hf
  refine rd_callS (As := [.int ((M (37 + 8 * r3)).1 4), .int p1]) (rest := []) rd_gd C9 hTh hW (c_K_requireOwner hls ((M (37 + 8 * r3)).1 4) p1 qr4) kc_K_requireOwner ki_K_requireOwner l_K_72 rfl ⟨Nat.le_of_ble_eq_true rfl, Nat.le_of_ble_eq_true rfl⟩ ⟨Nat.le_of_ble_eq_true rfl, Nat.le_of_ble_eq_true rfl⟩ hl.1 rfl (Nat.le_of_ble_eq_true rfl) d_K_delete_19 (fun E ce q9 H locs hex hW h1 h2 h3 => rd_out hnt hlk hW (xr4 E hex) h1 h2 h3 (by decide) (by decide)) (fun rr MM H locs hp hW => ?_)
  obtain ⟨r4, er4, rfl, rfl⟩ := hp
  have hf := vr4 _ er4
  refine lv_aload_n hx hb d_K_delete_22 rfl (lv_at hl 0 rfl) ?_
  refine lv_iconst (v := 0) hx hb d_K_delete_23 (by decide) ?_
  obtain ⟨or5, qr5, xr5, vr5⟩ := rd_b_run hf
  refine rd_callS (As := [.ref (ad (37 + 8 * r3)), .int 0]) (rest := []) rd_gd C9 hTh hW (c_K_requireState hls r3 0 br3_0 qr5) kc_K_requireState ki_K_requireState l_K_123 rfl ⟨Nat.le_of_ble_eq_true rfl, Nat.le_of_ble_eq_true rfl⟩ ⟨Nat.le_of_ble_eq_true rfl, Nat.le_of_ble_eq_true rfl⟩ hl.1 rfl (Nat.le_of_ble_eq_true rfl) d_K_delete_24 (fun E ce q9 H locs hex hW h1 h2 h3 => rd_out hnt hlk hW (xr5 E hex) h1 h2 h3 (by decide) (by decide)) (fun rr MM H locs hp hW => ?_)
  obtain ⟨r5, er5, rfl, rfl⟩ := hp
  have hf := vr5 _ er5
  refine lv_aload_n hx hb d_K_delete_27 rfl (lv_at hl 0 rfl) ?_
  refine lv_iconst (v := 2) hx hb d_K_delete_28 (by decide) ?_
  obtain ⟨or6, qr6, xr6, vr6⟩ := rd_b_run hf
  refine rd_callS (As := [.ref (ad (37 + 8 * r3)), .int 2]) (rest := []) rd_gd C9 hTh hW (c_K_requireUnlocked hls r3 2 br3_0 qr6) kc_K_requireUnlocked ki_K_requireUnlocked l_K_127 rfl ⟨Nat.le_of_ble_eq_true rfl, Nat.le_of_ble_eq_true rfl⟩ ⟨Nat.le_of_ble_eq_true rfl, Nat.le_of_ble_eq_true rfl⟩ hl.1 rfl (Nat.le_of_ble_eq_true rfl) d_K_delete_29 (fun E ce q9 H locs hex hW h1 h2 h3 => rd_out hnt hlk hW (xr6 E hex) h1 h2 h3 (by decide) (by decide)) (fun rr MM H locs hp hW => ?_)
  obtain ⟨r6, er6, rfl, rfl⟩ := hp
  have hf := vr6 _ er6
  refine lv_aload_n hx hb d_K_delete_32 rfl (lv_at hl 0 rfl) ?_
  obtain ⟨or7, qr7, xr7, vr7⟩ := rd_b_run hf
  refine rd_callS (As := [.ref (ad (37 + 8 * r3))]) (rest := []) rd_gd C9 hTh hW (c_K_requireNoTransfer hls r3 br3_0 qr7) kc_K_requireNoTransfer ki_K_requireNoTransfer l_K_156 rfl ⟨Nat.le_of_ble_eq_true rfl, Nat.le_of_ble_eq_true rfl⟩ ⟨Nat.le_of_ble_eq_true rfl, Nat.le_of_ble_eq_true rfl⟩ hl.1 rfl (Nat.le_of_ble_eq_true rfl) d_K_delete_33 (fun E ce q9 H locs hex hW h1 h2 h3 => rd_out hnt hlk hW (xr7 E hex) h1 h2 h3 (by decide) (by decide)) (fun rr MM H locs hp hW => ?_)
  obtain ⟨r7, er7, rfl, rfl⟩ := hp
  have hf := vr7 _ er7
  refine lv_aload_n hx hb d_K_delete_36 rfl (lv_at hl 1 rfl) ?_
  refine lv_iload_n hx hb d_K_delete_37 rfl (lv_at hl 3 rfl) ?_
  obtain ⟨r8, qr8, hf⟩ := rd_bind hf
  refine rd_callV (As := [.int p2]) (rest := []) rd_gd C9 hTh hW (c_K_othersUseHostsUnder hls p2 qr8) kc_K_othersUseHostsUnder ki_K_othersUseHostsUnder ks_K_othersUseHostsUnder l_K_162 rfl (lt_K) (ce_K) rfl ⟨Nat.le_of_ble_eq_true rfl, Nat.le_of_ble_eq_true rfl⟩ ⟨Nat.le_of_ble_eq_true rfl, Nat.le_of_ble_eq_true rfl⟩ hl.1 rfl (Nat.le_of_ble_eq_true rfl) d_K_delete_38 (fun E _ _ _ _ hex => hex.elim) (fun rr MM H locs hp hW => ?_)
  obtain ⟨rfl, rfl⟩ := hp
  refine lv_if_eq (tgt := 54) hx hb d_K_delete_41 (by decide) (fun c9 => ?_) (fun c9 => ?_)
  · have hf := rd_t hf c9
    refine lv_aload_n hx hb d_K_delete_54 rfl (lv_at hl 1 rfl) ?_
    refine gf_K_accounts C9 hW l_K_15 d_K_delete_55 ?_
    refine lv_iload_n hx hb d_K_delete_58 rfl (lv_at hl 2 rfl) ?_
    obtain ⟨g10, hf⟩ := rd_g hf
    refine al_accounts C9 hW rfl g10 d_K_delete_59 ?_
    refine lv_dup hx hb d_K_delete_60 rfl ?_
    refine gf_A_balance C9 hW (rd_lt g10) l_K_53 d_K_delete_61 ?_
    refine lv_aload_n hx hb d_K_delete_64 rfl (lv_at hl 0 rfl) ?_
    refine lv_aload_n hx hb d_K_delete_65 rfl (lv_at hl 1 rfl) ?_
    refine gf_K_today C9 hW l_K_34 d_K_delete_66 ?_
    obtain ⟨r11, qr11, hf⟩ := rd_bind hf
    refine rd_callV (As := [.int ((M 0).1 4)]) (rest := [.double ((M (3 + 3 * p1.toNatClampNeg)).2.2 2), .ref (ad (3 + 3 * p1.toNatClampNeg))]) rd_gd C9 hTh hW (c_D_graceCosts hls r3 ((M 0).1 4) br3_0 qr11) kc_D_graceCosts ki_D_graceCosts ks_D_graceCosts l_K_168 rfl (lt_D br3_0) (ce_D br3_0) rfl ⟨Nat.le_of_ble_eq_true rfl, Nat.le_of_ble_eq_true rfl⟩ ⟨Nat.le_of_ble_eq_true rfl, Nat.le_of_ble_eq_true rfl⟩ hl.1 rfl (Nat.le_of_ble_eq_true rfl) d_K_delete_69 (fun E _ _ _ _ hex => hex.elim) (fun rr MM H locs hp hW => ?_)
    obtain ⟨rfl, rfl⟩ := hp
    obtain ⟨g_72, hf⟩ := rd_g hf
    refine lv_dadd hx hb d_K_delete_72 g_72 ?_
    refine pf_A_balance C9 hW (rd_lt g10) l_K_53 d_K_delete_73 (fun H locs hW => ?_)
    obtain ⟨M12, hM12, hf⟩ := rd_k_el hf
    rw [← hM12] at hW
    refine lv_aload_n hx hb d_K_delete_76 rfl (lv_at hl 0 rfl) ?_
    refine lv_iconst (v := 0) hx hb d_K_delete_77 (by decide) ?_
    refine lv_aload_n hx hb d_K_delete_78 rfl (lv_at hl 1 rfl) ?_
    refine gf_K_today C9 hW l_K_34 d_K_delete_79 ?_
    obtain ⟨r13, qr13, hf⟩ := rd_bind hf
    refine rd_callV (As := [.int 0, .int ((M12 0).1 4)]) (rest := []) rd_gd C9 hTh hW (c_D_graceIsOn hls r3 0 ((M12 0).1 4) br3_0 qr13) kc_D_graceIsOn ki_D_graceIsOn ks_D_graceIsOn l_K_172 rfl (lt_D br3_0) (ce_D br3_0) rfl ⟨Nat.le_of_ble_eq_true rfl, Nat.le_of_ble_eq_true rfl⟩ ⟨Nat.le_of_ble_eq_true rfl, Nat.le_of_ble_eq_true rfl⟩ hl.1 rfl (Nat.le_of_ble_eq_true rfl) d_K_delete_82 (fun E _ _ _ _ hex => hex.elim) (fun rr MM H locs hp hW => ?_)
    obtain ⟨rfl, rfl⟩ := hp
    refine lv_if_eq (tgt := 95) hx hb d_K_delete_85 (by decide) (fun c14 => ?_) (fun c14 => ?_)
    · have hf := rd_t hf c14
      refine lv_aload_n hx hb d_K_delete_95 rfl (lv_at hl 0 rfl) ?_
      refine lv_iconst (v := 4) hx hb d_K_delete_96 (by decide) ?_
      refine lv_aload_n hx hb d_K_delete_97 rfl (lv_at hl 1 rfl) ?_
      refine gf_K_today C9 hW l_K_34 d_K_delete_98 ?_
      obtain ⟨r15, qr15, hf⟩ := rd_bind hf
      refine rd_callV (As := [.int 4, .int ((M12 0).1 4)]) (rest := []) rd_gd C9 hTh hW (c_D_graceIsOn hls r3 4 ((M12 0).1 4) br3_0 qr15) kc_D_graceIsOn ki_D_graceIsOn ks_D_graceIsOn l_K_172 rfl (lt_D br3_0) (ce_D br3_0) rfl ⟨Nat.le_of_ble_eq_true rfl, Nat.le_of_ble_eq_true rfl⟩ ⟨Nat.le_of_ble_eq_true rfl, Nat.le_of_ble_eq_true rfl⟩ hl.1 rfl (Nat.le_of_ble_eq_true rfl) d_K_delete_101 (fun E _ _ _ _ hex => hex.elim) (fun rr MM H locs hp hW => ?_)
      obtain ⟨rfl, rfl⟩ := hp
      refine lv_if_eq (tgt := 118) hx hb d_K_delete_104 (by decide) (fun c16 => ?_) (fun c16 => ?_)
      · have hf := rd_t hf c16
        refine lv_aload_n hx hb d_K_delete_118 rfl (lv_at hl 0 rfl) ?_
        obtain ⟨r17, qr17, hf⟩ := rd_bind hf
        refine rd_callV (As := []) (rest := []) rd_gd C9 hTh hW (c_D_clearGraces hls r3 br3_0 qr17) kc_D_clearGraces ki_D_clearGraces ks_D_clearGraces l_K_179 rfl (lt_D br3_0) (ce_D br3_0) rfl ⟨Nat.le_of_ble_eq_true rfl, Nat.le_of_ble_eq_true rfl⟩ ⟨Nat.le_of_ble_eq_true rfl, Nat.le_of_ble_eq_true rfl⟩ hl.1 rfl (Nat.le_of_ble_eq_true rfl) d_K_delete_119 (fun E _ _ _ _ hex => hex.elim) (fun rr MM H locs hp hW => ?_)
        obtain ⟨rfl, rfl⟩ := hp
        refine lv_aload_n hx hb d_K_delete_122 rfl (lv_at hl 0 rfl) ?_
        refine lv_iconst (v := 1) hx hb d_K_delete_123 (by decide) ?_
        refine lv_aload_n hx hb d_K_delete_124 rfl (lv_at hl 1 rfl) ?_
        refine gf_K_today C9 hW l_K_34 d_K_delete_125 ?_
        refine lv_iconst (v := 5) hx hb d_K_delete_128 (by decide) ?_
        refine lv_iadd hx hb d_K_delete_129 ?_
        obtain ⟨r18, qr18, hf⟩ := rd_bind hf
        refine rd_callV (As := [.int 1, .int (((r17 0).1 4) + 5)]) (rest := []) rd_gd C9 hTh hW (c_D_enter hls r3 1 (((r17 0).1 4) + 5) br3_0 qr18) kc_D_enter ki_D_enter ks_D_enter l_K_182 rfl (lt_D br3_0) (ce_D br3_0) rfl ⟨Nat.le_of_ble_eq_true rfl, Nat.le_of_ble_eq_true rfl⟩ ⟨Nat.le_of_ble_eq_true rfl, Nat.le_of_ble_eq_true rfl⟩ hl.1 rfl (Nat.le_of_ble_eq_true rfl) d_K_delete_130 (fun E _ _ _ _ hex => hex.elim) (fun rr MM H locs hp hW => ?_)
        obtain ⟨rfl, rfl⟩ := hp
        refine lv_iconst (v := 1) hx hb d_K_delete_133 (by decide) ?_
        obtain rfl := Option.some.inj hf
        exact rd_iret C9 hlk hret hW ⟨_, rfl, rfl, rfl⟩ (by decide) (by decide) d_K_delete_134
      · have hf := rd_f hf c16
        refine lv_aload_n hx hb d_K_delete_107 rfl (lv_at hl 0 rfl) ?_
        refine lv_dup hx hb d_K_delete_108 rfl ?_
        refine gf_D_expiry C9 hW br3_0 l_K_120 d_K_delete_109 ?_
        refine lv_bipush (v := 10) hx hb d_K_delete_112 (by decide) ?_
        refine lv_isub hx hb d_K_delete_114 ?_
        refine pf_D_expiry C9 hW br3_0 l_K_120 d_K_delete_115 (fun H locs hW => ?_)
        obtain ⟨M19, hM19, hf⟩ := rd_k_el hf
        rw [← hM19] at hW
        refine lv_aload_n hx hb d_K_delete_118 rfl (lv_at hl 0 rfl) ?_
        obtain ⟨r20, qr20, hf⟩ := rd_bind hf
        refine rd_callV (As := []) (rest := []) rd_gd C9 hTh hW (c_D_clearGraces hls r3 br3_0 qr20) kc_D_clearGraces ki_D_clearGraces ks_D_clearGraces l_K_179 rfl (lt_D br3_0) (ce_D br3_0) rfl ⟨Nat.le_of_ble_eq_true rfl, Nat.le_of_ble_eq_true rfl⟩ ⟨Nat.le_of_ble_eq_true rfl, Nat.le_of_ble_eq_true rfl⟩ hl.1 rfl (Nat.le_of_ble_eq_true rfl) d_K_delete_119 (fun E _ _ _ _ hex => hex.elim) (fun rr MM H locs hp hW => ?_)
        obtain ⟨rfl, rfl⟩ := hp
        refine lv_aload_n hx hb d_K_delete_122 rfl (lv_at hl 0 rfl) ?_
        refine lv_iconst (v := 1) hx hb d_K_delete_123 (by decide) ?_
        refine lv_aload_n hx hb d_K_delete_124 rfl (lv_at hl 1 rfl) ?_
        refine gf_K_today C9 hW l_K_34 d_K_delete_125 ?_
        refine lv_iconst (v := 5) hx hb d_K_delete_128 (by decide) ?_
        refine lv_iadd hx hb d_K_delete_129 ?_
        obtain ⟨r21, qr21, hf⟩ := rd_bind hf
        refine rd_callV (As := [.int 1, .int (((r20 0).1 4) + 5)]) (rest := []) rd_gd C9 hTh hW (c_D_enter hls r3 1 (((r20 0).1 4) + 5) br3_0 qr21) kc_D_enter ki_D_enter ks_D_enter l_K_182 rfl (lt_D br3_0) (ce_D br3_0) rfl ⟨Nat.le_of_ble_eq_true rfl, Nat.le_of_ble_eq_true rfl⟩ ⟨Nat.le_of_ble_eq_true rfl, Nat.le_of_ble_eq_true rfl⟩ hl.1 rfl (Nat.le_of_ble_eq_true rfl) d_K_delete_130 (fun E _ _ _ _ hex => hex.elim) (fun rr MM H locs hp hW => ?_)
        obtain ⟨rfl, rfl⟩ := hp
        refine lv_iconst (v := 1) hx hb d_K_delete_133 (by decide) ?_
        obtain rfl := Option.some.inj hf
        exact rd_iret C9 hlk hret hW ⟨_, rfl, rfl, rfl⟩ (by decide) (by decide) d_K_delete_134
    · have hf := rd_f hf c14
      refine lv_aload_n hx hb d_K_delete_88 rfl (lv_at hl 1 rfl) ?_
      refine lv_iload_n hx hb d_K_delete_89 rfl (lv_at hl 3 rfl) ?_
      obtain ⟨r22, qr22, hf⟩ := rd_bind hf
      refine rd_callV (As := [.int p2]) (rest := []) rd_gd C9 hTh hW (c_K_dropDomain hls p2 qr22) kc_K_dropDomain ki_K_dropDomain ks_K_dropDomain l_K_176 rfl (lt_K) (ce_K) rfl ⟨Nat.le_of_ble_eq_true rfl, Nat.le_of_ble_eq_true rfl⟩ ⟨Nat.le_of_ble_eq_true rfl, Nat.le_of_ble_eq_true rfl⟩ hl.1 rfl (Nat.le_of_ble_eq_true rfl) d_K_delete_90 (fun E _ _ _ _ hex => hex.elim) (fun rr MM H locs hp hW => ?_)
      obtain ⟨rfl, rfl⟩ := hp
      refine lv_iconst (v := 2) hx hb d_K_delete_93 (by decide) ?_
      obtain rfl := Option.some.inj hf
      exact rd_iret C9 hlk hret hW ⟨_, rfl, rfl, rfl⟩ (by decide) (by decide) d_K_delete_94
  · have hf := rd_f hf c9
    obtain rfl := Option.some.inj hf
    exact rd_throw (text := "another domain uses a host that lies under it") (names := ["java/lang/RuntimeException", "java/lang/Exception"]) hls C9 hnt hlk hTh hW hl.1 rd_gd (by decide) (by decide) l_K_87 in_IllegalStateException (List.mem_of_getElem? (i := 16) rfl) ta_K_IllegalStateException d_K_delete_44 d_K_delete_47 d_K_delete_48 d_K_delete_50 d_K_delete_53 (Nat.le_of_ble_eq_true rfl) (Nat.le_of_ble_eq_true rfl) (Nat.le_of_ble_eq_true rfl) (Nat.le_of_ble_eq_true rfl) rfl (Nat.le_of_ble_eq_true rfl) (Nat.le_of_ble_eq_true rfl)
def f_K_restore (M : rd_M) (p1 : Int32) (p2 : Int32) : Option (String ⊕ (Int32 × rd_M)) :=
  rd_b (f_K_requireRegistrar M p1) fun r1 =>
  rd_b (f_K_requireName M p2) fun r2 =>
  rd_b (f_K_domainThere M p2) fun r3 =>
  rd_b (f_K_requireOwner M ((M (37 + 8 * r3)).1 4) p1) fun r4 =>
  rd_b (f_K_requireState M r3 1) fun r5 =>
  rd_b (f_K_payFor M p1 3 1) fun r6 =>
  (f_D_enter r6.2 r3 0 (-1)).bind fun r7 =>
  some (.inr ((r7 (37 + 8 * r3)).1 5, r7))
set_option maxRecDepth 100000 in
set_option maxHeartbeats 4000000 in
theorem c_K_restore {l : Launch} (hls : l.stackTraces = false) {D : va_G} {Ka : Nat → ClassId} {ad : Nat → Nat} {M : rd_M} (p1 : Int32) (p2 : Int32)  {o : String ⊕ (Int32 × rd_M)} (hf : f_K_restore M p1 p2 = some o) :
    rd_Met l y_K_restore b_K_restore 4 (some .int) (8, 138, 6, 36) rd_T rd_ss D rd_cl (rd_ty Ka) (dk_L Ka) ad M [.ref (ad 0), .int p1, .int p2] (fun r M1 => ∃ v, o = .inr v ∧ r = some (.int v.1) ∧ v.2 = M1) (fun E => o = .inl E) := by
  refine rd_body (by decide) (Nat.le_of_ble_eq_true rfl) ?_
  intro p e s m below meth c C9 hlk hret hnt hTh hW ls hl
  have hx := C9.1.1
  have hb := C9.1.2.1
  have hl : lv_has ls 4 [(0, .ref (ad 0)), (1, .int p1), (2, .int p2)] := hl
  unfold f_K_restore at hf
  refine lv_iload_n hx hb d_K_restore_0 rfl (lv_at hl 1 rfl) ?_
  obtain ⟨or1, qr1, xr1, vr1⟩ := rd_b_run hf
  refine rd_callS (As := [.int p1]) (rest := []) rd_gd C9 hTh hW (c_K_requireRegistrar hls p1 qr1) kc_K_requireRegistrar ki_K_requireRegistrar l_K_46 rfl ⟨Nat.le_of_ble_eq_true rfl, Nat.le_of_ble_eq_true rfl⟩ ⟨Nat.le_of_ble_eq_true rfl, Nat.le_of_ble_eq_true rfl⟩ hl.1 rfl (Nat.le_of_ble_eq_true rfl) d_K_restore_1 (fun E ce q9 H locs hex hW h1 h2 h3 => rd_out hnt hlk hW (xr1 E hex) h1 h2 h3 (by decide) (by decide)) (fun rr MM H locs hp hW => ?_)
  obtain ⟨r1, er1, rfl, rfl⟩ := hp
  have hf := vr1 _ er1
  refine lv_iload_n hx hb d_K_restore_4 rfl (lv_at hl 2 rfl) ?_
  obtain ⟨or2, qr2, xr2, vr2⟩ := rd_b_run hf
  refine rd_callS (As := [.int p2]) (rest := []) rd_gd C9 hTh hW (c_K_requireName hls p2 qr2) kc_K_requireName ki_K_requireName l_K_102 rfl ⟨Nat.le_of_ble_eq_true rfl, Nat.le_of_ble_eq_true rfl⟩ ⟨Nat.le_of_ble_eq_true rfl, Nat.le_of_ble_eq_true rfl⟩ hl.1 rfl (Nat.le_of_ble_eq_true rfl) d_K_restore_5 (fun E ce q9 H locs hex hW h1 h2 h3 => rd_out hnt hlk hW (xr2 E hex) h1 h2 h3 (by decide) (by decide)) (fun rr MM H locs hp hW => ?_)
  obtain ⟨r2, er2, rfl, rfl⟩ := hp
  have hf := vr2 _ er2
  refine lv_aload_n hx hb d_K_restore_8 rfl (lv_at hl 0 rfl) ?_
  refine lv_iload_n hx hb d_K_restore_9 rfl (lv_at hl 2 rfl) ?_
  obtain ⟨or3, qr3, xr3, vr3⟩ := rd_b_run hf
  refine rd_callV (As := [.int p2]) (rest := []) rd_gd C9 hTh hW (c_K_domainThere hls p2 qr3) kc_K_domainThere ki_K_domainThere ks_K_domainThere l_K_65 rfl (lt_K) (ce_K) rfl ⟨Nat.le_of_ble_eq_true rfl, Nat.le_of_ble_eq_true rfl⟩ ⟨Nat.le_of_ble_eq_true rfl, Nat.le_of_ble_eq_true rfl⟩ hl.1 rfl (Nat.le_of_ble_eq_true rfl) d_K_restore_10 (fun E ce q9 H locs hex hW h1 h2 h3 => rd_out hnt hlk hW (xr3 E hex) h1 h2 h3 (by decide) (by decide)) (fun rr MM H locs hp hW => ?_)
  obtain ⟨r3, er3, rfl, rfl, br3_0⟩ := hp
  have hf := vr3 _ er3
  refine lv_astore_n (lv' := [(3, .ref (ad (37 + 8 * r3))), (0, .ref (ad 0)), (1, .int p1), (2, .int p2)]) hx hb d_K_restore_13 rfl hl (by decide) rfl (fun ls hl => ?_)
  refine lv_aload_n hx hb d_K_restore_14 rfl (lv_at hl 0 rfl) ?_
  refine gf_D_owner C9 hW br3_0 l_K_69 d_K_restore_15 ?_
  refine lv_iload_n hx hb d_K_restore_18 rfl (lv_at hl 2 rfl) ?_
  obtain ⟨or4, qr4, xr4, vr4⟩ := rd_b_run hf
  refine rd_callS (As := [.int ((M (37 + 8 * r3)).1 4), .int p1]) (rest := []) rd_gd C9 hTh hW (c_K_requireOwner hls ((M (37 + 8 * r3)).1 4) p1 qr4) kc_K_requireOwner ki_K_requireOwner l_K_72 rfl ⟨Nat.le_of_ble_eq_true rfl, Nat.le_of_ble_eq_true rfl⟩ ⟨Nat.le_of_ble_eq_true rfl, Nat.le_of_ble_eq_true rfl⟩ hl.1 rfl (Nat.le_of_ble_eq_true rfl) d_K_restore_19 (fun E ce q9 H locs hex hW h1 h2 h3 => rd_out hnt hlk hW (xr4 E hex) h1 h2 h3 (by decide) (by decide)) (fun rr MM H locs hp hW => ?_)
  obtain ⟨r4, er4, rfl, rfl⟩ := hp
  have hf := vr4 _ er4
  refine lv_aload_n hx hb d_K_restore_22 rfl (lv_at hl 0 rfl) ?_
  refine lv_iconst (v := 1) hx hb d_K_restore_23 (by decide) ?_
  obtain ⟨or5, qr5, xr5, vr5⟩ := rd_b_run hf
  refine rd_callS (As := [.ref (ad (37 + 8 * r3)), .int 1]) (rest := []) rd_gd C9 hTh hW (c_K_requireState hls r3 1 br3_0 qr5) kc_K_requireState ki_K_requireState l_K_123 rfl ⟨Nat.le_of_ble_eq_true rfl, Nat.le_of_ble_eq_true rfl⟩ ⟨Nat.le_of_ble_eq_true rfl, Nat.le_of_ble_eq_true rfl⟩ hl.1 rfl (Nat.le_of_ble_eq_true rfl) d_K_restore_24 (fun E ce q9 H locs hex hW h1 h2 h3 => rd_out hnt hlk hW (xr5 E hex) h1 h2 h3 (by decide) (by decide)) (fun rr MM H locs hp hW => ?_)
  obtain ⟨r5, er5, rfl, rfl⟩ := hp
  have hf := vr5 _ er5
  refine lv_aload_n hx hb d_K_restore_27 rfl (lv_at hl 1 rfl) ?_
  refine lv_iload_n hx hb d_K_restore_28 rfl (lv_at hl 2 rfl) ?_
  refine lv_iconst (v := 3) hx hb d_K_restore_29 (by decide) ?_
  refine lv_iconst (v := 1) hx hb d_K_restore_30 (by decide) ?_
  obtain ⟨or6, qr6, xr6, vr6⟩ := rd_b_run hf
  refine rd_callV (As := [.int p1, .int 3, .int 1]) (rest := []) rd_gd C9 hTh hW (c_K_payFor hls p1 3 1 qr6) kc_K_payFor ki_K_payFor ks_K_payFor l_K_108 rfl (lt_K) (ce_K) rfl ⟨Nat.le_of_ble_eq_true rfl, Nat.le_of_ble_eq_true rfl⟩ ⟨Nat.le_of_ble_eq_true rfl, Nat.le_of_ble_eq_true rfl⟩ hl.1 rfl (Nat.le_of_ble_eq_true rfl) d_K_restore_31 (fun E ce q9 H locs hex hW h1 h2 h3 => rd_out hnt hlk hW (xr6 E hex) h1 h2 h3 (by decide) (by decide)) (fun rr MM H locs hp hW => ?_)
  obtain ⟨r6, er6, rfl, rfl⟩ := hp
  have hf := vr6 _ er6
  refine lv_pop2_2 hx hb d_K_restore_34 rfl ?_
  refine lv_aload_n hx hb d_K_restore_35 rfl (lv_at hl 0 rfl) ?_
  refine lv_iconst (v := 0) hx hb d_K_restore_36 (by decide) ?_
  refine lv_iconst (v := (-1)) hx hb d_K_restore_37 (by decide) ?_
  obtain ⟨r7, qr7, hf⟩ := rd_bind hf
  refine rd_callV (As := [.int 0, .int (-1)]) (rest := []) rd_gd C9 hTh hW (c_D_enter hls r3 0 (-1) br3_0 qr7) kc_D_enter ki_D_enter ks_D_enter l_K_182 rfl (lt_D br3_0) (ce_D br3_0) rfl ⟨Nat.le_of_ble_eq_true rfl, Nat.le_of_ble_eq_true rfl⟩ ⟨Nat.le_of_ble_eq_true rfl, Nat.le_of_ble_eq_true rfl⟩ hl.1 rfl (Nat.le_of_ble_eq_true rfl) d_K_restore_38 (fun E _ _ _ _ hex => hex.elim) (fun rr MM H locs hp hW => ?_)
  obtain ⟨rfl, rfl⟩ := hp
  refine lv_aload_n hx hb d_K_restore_41 rfl (lv_at hl 0 rfl) ?_
  refine gf_D_expiry C9 hW br3_0 l_K_120 d_K_restore_42 ?_
  obtain rfl := Option.some.inj hf
  exact rd_iret C9 hlk hret hW ⟨_, rfl, rfl, rfl⟩ (by decide) (by decide) d_K_restore_45
def f_K_ask (M : rd_M) (p1 : Int32) (p2 : Int32) (p3 : Int32) : Option (String ⊕ (Int32 × rd_M)) :=
  rd_b (f_K_requireRegistrar M p1) fun r1 =>
  rd_b (f_K_requireName M p2) fun r2 =>
  rd_b (f_K_requireRange M p3 0 99) fun r3 =>
  rd_b (f_K_domainThere M p2) fun r4 =>
  if ((M (37 + 8 * r4)).1 4) = p1 then
    some (.inl "java/lang/UnsupportedOperationException")
  else
    if ((M (37 + 8 * r4)).1 6) = p3 then
      rd_b (f_K_requireState M r4 0) fun r7 =>
      rd_b (f_K_requireUnlocked M r4 4) fun r8 =>
      rd_b (f_K_requireNoTransfer M r4) fun r9 =>
      rd_k (rd_iU M (37 + 8 * r4) 10 p1) fun M10 =>
      rd_k (rd_iU M10 (37 + 8 * r4) 11 (((M10 0).1 4) + 4)) fun M11 =>
      if rd_in ((M11 (37 + 8 * r4)).1 4) 4 then
      (f_A_tell M11 (((M11 (37 + 8 * r4)).1 4).toNatClampNeg) 1 p2).bind fun r13 =>
      some (.inr ((r13 (37 + 8 * r4)).1 11, r13))
      else none
    else
      some (.inl "java/lang/UnsupportedOperationException")
set_option maxRecDepth 100000 in
set_option maxHeartbeats 4000000 in
theorem c_K_ask {l : Launch} (hls : l.stackTraces = false) {D : va_G} {Ka : Nat → ClassId} {ad : Nat → Nat} {M : rd_M} (p1 : Int32) (p2 : Int32) (p3 : Int32)  {o : String ⊕ (Int32 × rd_M)} (hf : f_K_ask M p1 p2 p3 = some o) :
    rd_Met l y_K_ask b_K_ask 5 (some .int) (8, 132, 8, 48) rd_T rd_ss D rd_cl (rd_ty Ka) (dk_L Ka) ad M [.ref (ad 0), .int p1, .int p2, .int p3] (fun r M1 => ∃ v, o = .inr v ∧ r = some (.int v.1) ∧ v.2 = M1) (fun E => o = .inl E) := by
  refine rd_body (by decide) (Nat.le_of_ble_eq_true rfl) ?_
  intro p e s m below meth c C9 hlk hret hnt hTh hW ls hl
  have hx := C9.1.1
  have hb := C9.1.2.1
  have hl : lv_has ls 5 [(0, .ref (ad 0)), (1, .int p1), (2, .int p2), (3, .int p3)] := hl
  unfold f_K_ask at hf
  refine lv_iload_n hx hb d_K_ask_0 rfl (lv_at hl 1 rfl) ?_
  obtain ⟨or1, qr1, xr1, vr1⟩ := rd_b_run hf
  refine rd_callS (As := [.int p1]) (rest := []) rd_gd C9 hTh hW (c_K_requireRegistrar hls p1 qr1) kc_K_requireRegistrar ki_K_requireRegistrar l_K_46 rfl ⟨Nat.le_of_ble_eq_true rfl, Nat.le_of_ble_eq_true rfl⟩ ⟨Nat.le_of_ble_eq_true rfl, Nat.le_of_ble_eq_true rfl⟩ hl.1 rfl (Nat.le_of_ble_eq_true rfl) d_K_ask_1 (fun E ce q9 H locs hex hW h1 h2 h3 => rd_out hnt hlk hW (xr1 E hex) h1 h2 h3 (by decide) (by decide)) (fun rr MM H locs hp hW => ?_)
  obtain ⟨r1, er1, rfl, rfl⟩ := hp
  have hf := vr1 _ er1
  refine lv_iload_n hx hb d_K_ask_4 rfl (lv_at hl 2 rfl) ?_
  obtain ⟨or2, qr2, xr2, vr2⟩ := rd_b_run hf
  refine rd_callS (As := [.int p2]) (rest := []) rd_gd C9 hTh hW (c_K_requireName hls p2 qr2) kc_K_requireName ki_K_requireName l_K_102 rfl ⟨Nat.le_of_ble_eq_true rfl, Nat.le_of_ble_eq_true rfl⟩ ⟨Nat.le_of_ble_eq_true rfl, Nat.le_of_ble_eq_true rfl⟩ hl.1 rfl (Nat.le_of_ble_eq_true rfl) d_K_ask_5 (fun E ce q9 H locs hex hW h1 h2 h3 => rd_out hnt hlk hW (xr2 E hex) h1 h2 h3 (by decide) (by decide)) (fun rr MM H locs hp hW => ?_)
  obtain ⟨r2, er2, rfl, rfl⟩ := hp
  have hf := vr2 _ er2
  refine lv_iload_n hx hb d_K_ask_8 rfl (lv_at hl 3 rfl) ?_
  refine lv_iconst (v := 0) hx hb d_K_ask_9 (by decide) ?_
  refine lv_bipush (v := 99) hx hb d_K_ask_10 (by decide) ?_
  obtain ⟨or3, qr3, xr3, vr3⟩ := rd_b_run hf
  refine rd_callS (As := [.int p3, .int 0, .int 99]) (rest := []) rd_gd C9 hTh hW (c_K_requireRange hls p3 0 99 qr3) kc_K_requireRange ki_K_requireRange l_K_38 rfl ⟨Nat.le_of_ble_eq_true rfl, Nat.le_of_ble_eq_true rfl⟩ ⟨Nat.le_of_ble_eq_true rfl, Nat.le_of_ble_eq_true rfl⟩ hl.1 rfl (Nat.le_of_ble_eq_true rfl) d_K_ask_12 (fun E ce q9 H locs hex hW h1 h2 h3 => rd_out hnt hlk hW (xr3 E hex) h1 h2 h3 (by decide) (by decide)) (fun rr MM H locs hp hW => ?_)
  obtain ⟨r3, er3, rfl, rfl⟩ := hp
  have hf := vr3 _ er3
  refine lv_aload_n hx hb d_K_ask_15 rfl (lv_at hl 0 rfl) ?_
  refine lv_iload_n hx hb d_K_ask_16 rfl (lv_at hl 2 rfl) ?_
  obtain ⟨or4, qr4, xr4, vr4⟩ := rd_b_run hf
  refine rd_callV (As := [.int p2]) (rest := []) rd_gd C9 hTh hW (c_K_domainThere hls p2 qr4) kc_K_domainThere ki_K_domainThere ks_K_domainThere l_K_65 rfl (lt_K) (ce_K) rfl ⟨Nat.le_of_ble_eq_true rfl, Nat.le_of_ble_eq_true rfl⟩ ⟨Nat.le_of_ble_eq_true rfl, Nat.le_of_ble_eq_true rfl⟩ hl.1 rfl (Nat.le_of_ble_eq_true rfl) d_K_ask_17 (fun E ce q9 H locs hex hW h1 h2 h3 => rd_out hnt hlk hW (xr4 E hex) h1 h2 h3 (by decide) (by decide)) (fun rr MM H locs hp hW => ?_)
  obtain ⟨r4, er4, rfl, rfl, br4_0⟩ := hp
  have hf := vr4 _ er4
  refine lv_astore (lv' := [(4, .ref (ad (37 + 8 * r4))), (0, .ref (ad 0)), (1, .int p1), (2, .int p2), (3, .int p3)]) hx hb d_K_ask_20 hl (by decide) rfl (fun ls hl => ?_)
  refine lv_aload hx hb d_K_ask_22 (lv_at hl 0 rfl) ?_
  refine gf_D_owner C9 hW br4_0 l_K_69 d_K_ask_24 ?_
  refine lv_iload_n hx hb d_K_ask_27 rfl (lv_at hl 2 rfl) ?_
  refine lv_icmp_eq (tgt := 40) hx hb d_K_ask_28 (by decide) (fun c5 => ?_) (fun c5 => ?_)
  · have hf := rd_t hf c5
    obtain rfl := Option.some.inj hf
    exact rd_throw (text := "only another registrar with the code may ask") (names := ["java/lang/RuntimeException", "java/lang/Exception"]) hls C9 hnt hlk hTh hW hl.1 rd_gd (by decide) (by decide) l_K_188 in_UnsupportedOperationException (List.mem_of_getElem? (i := 17) rfl) ta_K_UnsupportedOperationException d_K_ask_40 d_K_ask_43 d_K_ask_44 d_K_ask_46 d_K_ask_49 (Nat.le_of_ble_eq_true rfl) (Nat.le_of_ble_eq_true rfl) (Nat.le_of_ble_eq_true rfl) (Nat.le_of_ble_eq_true rfl) rfl (Nat.le_of_ble_eq_true rfl) (Nat.le_of_ble_eq_true rfl)
  · have hf := rd_f hf c5
    refine lv_aload hx hb d_K_ask_31 (lv_at hl 0 rfl) ?_
    refine gf_D_code C9 hW br4_0 l_K_185 d_K_ask_33 ?_
    refine lv_iload_n hx hb d_K_ask_36 rfl (lv_at hl 4 rfl) ?_
    refine lv_icmp_eq (tgt := 50) hx hb d_K_ask_37 (by decide) (fun c6 => ?_) (fun c6 => ?_)
    · have hf := rd_t hf c6
      refine lv_aload hx hb d_K_ask_50 (lv_at hl 0 rfl) ?_
      refine lv_iconst (v := 0) hx hb d_K_ask_52 (by decide) ?_
      obtain ⟨or7, qr7, xr7, vr7⟩ := rd_b_run hf
      refine rd_callS (As := [.ref (ad (37 + 8 * r4)), .int 0]) (rest := []) rd_gd C9 hTh hW (c_K_requireState hls r4 0 br4_0 qr7) kc_K_requireState ki_K_requireState l_K_123 rfl ⟨Nat.le_of_ble_eq_true rfl, Nat.le_of_ble_eq_true rfl⟩ ⟨Nat.le_of_ble_eq_true rfl, Nat.le_of_ble_eq_true rfl⟩ hl.1 rfl (Nat.le_of_ble_eq_true rfl) d_K_ask_53 (fun E ce q9 H locs hex hW h1 h2 h3 => rd_out hnt hlk hW (xr7 E hex) h1 h2 h3 (by decide) (by decide)) (fun rr MM H locs hp hW => ?_)
      obtain ⟨r7, er7, rfl, rfl⟩ := hp
      have hf := vr7 _ er7
      refine lv_aload hx hb d_K_ask_56 (lv_at hl 0 rfl) ?_
      refine lv_iconst (v := 4) hx hb d_K_ask_58 (by decide) ?_
      obtain ⟨or8, qr8, xr8, vr8⟩ := rd_b_run hf
      refine rd_callS (As := [.ref (ad (37 + 8 * r4)), .int 4]) (rest := []) rd_gd C9 hTh hW (c_K_requireUnlocked hls r4 4 br4_0 qr8) kc_K_requireUnlocked ki_K_requireUnlocked l_K_127 rfl ⟨Nat.le_of_ble_eq_true rfl, Nat.le_of_ble_eq_true rfl⟩ ⟨Nat.le_of_ble_eq_true rfl, Nat.le_of_ble_eq_true rfl⟩ hl.1 rfl (Nat.le_of_ble_eq_true rfl) d_K_ask_59 (fun E ce q9 H locs hex hW h1 h2 h3 => rd_out hnt hlk hW (xr8 E hex) h1 h2 h3 (by decide) (by decide)) (fun rr MM H locs hp hW => ?_)
      obtain ⟨r8, er8, rfl, rfl⟩ := hp
      have hf := vr8 _ er8
      refine lv_aload hx hb d_K_ask_62 (lv_at hl 0 rfl) ?_
      obtain ⟨or9, qr9, xr9, vr9⟩ := rd_b_run hf
      refine rd_callS (As := [.ref (ad (37 + 8 * r4))]) (rest := []) rd_gd C9 hTh hW (c_K_requireNoTransfer hls r4 br4_0 qr9) kc_K_requireNoTransfer ki_K_requireNoTransfer l_K_156 rfl ⟨Nat.le_of_ble_eq_true rfl, Nat.le_of_ble_eq_true rfl⟩ ⟨Nat.le_of_ble_eq_true rfl, Nat.le_of_ble_eq_true rfl⟩ hl.1 rfl (Nat.le_of_ble_eq_true rfl) d_K_ask_64 (fun E ce q9 H locs hex hW h1 h2 h3 => rd_out hnt hlk hW (xr9 E hex) h1 h2 h3 (by decide) (by decide)) (fun rr MM H locs hp hW => ?_)
      obtain ⟨r9, er9, rfl, rfl⟩ := hp
      have hf := vr9 _ er9
      refine lv_aload hx hb d_K_ask_67 (lv_at hl 0 rfl) ?_
      refine lv_iload_n hx hb d_K_ask_69 rfl (lv_at hl 2 rfl) ?_
      refine pf_D_transferFor C9 hW br4_0 l_K_193 d_K_ask_70 (fun H locs hW => ?_)
      obtain ⟨M10, hM10, hf⟩ := rd_k_el hf
      rw [← hM10] at hW
      refine lv_aload hx hb d_K_ask_73 (lv_at hl 0 rfl) ?_
      refine lv_aload_n hx hb d_K_ask_75 rfl (lv_at hl 1 rfl) ?_
      refine gf_K_today C9 hW l_K_34 d_K_ask_76 ?_
      refine lv_iconst (v := 4) hx hb d_K_ask_79 (by decide) ?_
      refine lv_iadd hx hb d_K_ask_80 ?_
      refine pf_D_transferTill C9 hW br4_0 l_K_196 d_K_ask_81 (fun H locs hW => ?_)
      obtain ⟨M11, hM11, hf⟩ := rd_k_el hf
      rw [← hM11] at hW
      refine lv_aload_n hx hb d_K_ask_84 rfl (lv_at hl 1 rfl) ?_
      refine gf_K_accounts C9 hW l_K_15 d_K_ask_85 ?_
      refine lv_aload hx hb d_K_ask_88 (lv_at hl 0 rfl) ?_
      refine gf_D_owner C9 hW br4_0 l_K_69 d_K_ask_90 ?_
      obtain ⟨g12, hf⟩ := rd_g hf
      refine al_accounts C9 hW rfl g12 d_K_ask_93 ?_
      refine lv_iconst (v := 1) hx hb d_K_ask_94 (by decide) ?_
      refine lv_iload_n hx hb d_K_ask_95 rfl (lv_at hl 3 rfl) ?_
      obtain ⟨r13, qr13, hf⟩ := rd_bind hf
      refine rd_callV (As := [.int 1, .int p2]) (rest := []) rd_gd C9 hTh hW (c_A_tell hls (((M11 (37 + 8 * r4)).1 4).toNatClampNeg) 1 p2 (rd_lt g12) qr13) kc_A_tell ki_A_tell ks_A_tell l_K_199 rfl (lt_A (rd_lt g12)) (ce_A (rd_lt g12)) rfl ⟨Nat.le_of_ble_eq_true rfl, Nat.le_of_ble_eq_true rfl⟩ ⟨Nat.le_of_ble_eq_true rfl, Nat.le_of_ble_eq_true rfl⟩ hl.1 rfl (Nat.le_of_ble_eq_true rfl) d_K_ask_96 (fun E _ _ _ _ hex => hex.elim) (fun rr MM H locs hp hW => ?_)
      obtain ⟨rfl, rfl⟩ := hp
      refine lv_aload hx hb d_K_ask_99 (lv_at hl 0 rfl) ?_
      refine gf_D_transferTill C9 hW br4_0 l_K_196 d_K_ask_101 ?_
      obtain rfl := Option.some.inj hf
      exact rd_iret C9 hlk hret hW ⟨_, rfl, rfl, rfl⟩ (by decide) (by decide) d_K_ask_104
    · have hf := rd_f hf c6
      obtain rfl := Option.some.inj hf
      exact rd_throw (text := "only another registrar with the code may ask") (names := ["java/lang/RuntimeException", "java/lang/Exception"]) hls C9 hnt hlk hTh hW hl.1 rd_gd (by decide) (by decide) l_K_188 in_UnsupportedOperationException (List.mem_of_getElem? (i := 17) rfl) ta_K_UnsupportedOperationException d_K_ask_40 d_K_ask_43 d_K_ask_44 d_K_ask_46 d_K_ask_49 (Nat.le_of_ble_eq_true rfl) (Nat.le_of_ble_eq_true rfl) (Nat.le_of_ble_eq_true rfl) (Nat.le_of_ble_eq_true rfl) rfl (Nat.le_of_ble_eq_true rfl) (Nat.le_of_ble_eq_true rfl)
def f_K_endTransfer (M : rd_M) (p1 : Int32) : Option (rd_M) :=
  if rd_in p1 10 then
  rd_k (rd_iU M (37 + 8 * p1.toNatClampNeg) 10 (-1)) fun M2 =>
  if rd_in ((M (37 + 8 * p1.toNatClampNeg)).1 10) 4 then
  (f_A_tell M2 (((M (37 + 8 * p1.toNatClampNeg)).1 10).toNatClampNeg) 3 p1).bind fun r4 =>
  some r4
  else none
  else none
set_option maxRecDepth 100000 in
set_option maxHeartbeats 4000000 in
theorem c_K_endTransfer {l : Launch} (hls : l.stackTraces = false) {D : va_G} {Ka : Nat → ClassId} {ad : Nat → Nat} {M : rd_M} (p1 : Int32)  {o : rd_M} (hf : f_K_endTransfer M p1 = some o) :
    rd_Met l y_K_endTransfer b_K_endTransfer 4 none (2, 43, 0, 0) rd_T rd_ss D rd_cl (rd_ty Ka) (dk_L Ka) ad M [.ref (ad 0), .int p1] (fun r M1 => r = none ∧ o = M1) (fun _ => False) := by
  refine rd_body (by decide) (Nat.le_of_ble_eq_true rfl) ?_
  intro p e s m below meth c C9 hlk hret hnt hTh hW ls hl
  have hx := C9.1.1
  have hb := C9.1.2.1
  have hl : lv_has ls 4 [(0, .ref (ad 0)), (1, .int p1)] := hl
  unfold f_K_endTransfer at hf
  refine lv_aload_n hx hb d_K_endTransfer_0 rfl (lv_at hl 0 rfl) ?_
  refine gf_K_domains C9 hW l_K_29 d_K_endTransfer_1 ?_
  refine lv_iload_n hx hb d_K_endTransfer_4 rfl (lv_at hl 1 rfl) ?_
  obtain ⟨g1, hf⟩ := rd_g hf
  refine al_domains C9 hW rfl g1 d_K_endTransfer_5 ?_
  refine lv_astore_n (lv' := [(2, .ref (ad (37 + 8 * p1.toNatClampNeg))), (0, .ref (ad 0)), (1, .int p1)]) hx hb d_K_endTransfer_6 rfl hl (by decide) rfl (fun ls hl => ?_)
  refine lv_aload_n hx hb d_K_endTransfer_7 rfl (lv_at hl 0 rfl) ?_
  refine gf_D_transferFor C9 hW (rd_lt g1) l_K_193 d_K_endTransfer_8 ?_
  refine lv_istore_n (lv' := [(3, .int ((M (37 + 8 * p1.toNatClampNeg)).1 10)), (2, .ref (ad (37 + 8 * p1.toNatClampNeg))), (0, .ref (ad 0)), (1, .int p1)]) hx hb d_K_endTransfer_11 rfl hl (by decide) rfl (fun ls hl => ?_)
  refine lv_aload_n hx hb d_K_endTransfer_12 rfl (lv_at hl 1 rfl) ?_
  refine lv_iconst (v := (-1)) hx hb d_K_endTransfer_13 (by decide) ?_
  refine pf_D_transferFor C9 hW (rd_lt g1) l_K_193 d_K_endTransfer_14 (fun H locs hW => ?_)
  obtain ⟨M2, hM2, hf⟩ := rd_k_el hf
  rw [← hM2] at hW
  refine lv_aload_n hx hb d_K_endTransfer_17 rfl (lv_at hl 2 rfl) ?_
  refine gf_K_accounts C9 hW l_K_15 d_K_endTransfer_18 ?_
  refine lv_iload_n hx hb d_K_endTransfer_21 rfl (lv_at hl 0 rfl) ?_
  obtain ⟨g3, hf⟩ := rd_g hf
  refine al_accounts C9 hW rfl g3 d_K_endTransfer_22 ?_
  refine lv_iconst (v := 3) hx hb d_K_endTransfer_23 (by decide) ?_
  refine lv_iload_n hx hb d_K_endTransfer_24 rfl (lv_at hl 3 rfl) ?_
  obtain ⟨r4, qr4, hf⟩ := rd_bind hf
  refine rd_callV (As := [.int 3, .int p1]) (rest := []) rd_gd C9 hTh hW (c_A_tell hls (((M (37 + 8 * p1.toNatClampNeg)).1 10).toNatClampNeg) 3 p1 (rd_lt g3) qr4) kc_A_tell ki_A_tell ks_A_tell l_K_199 rfl (lt_A (rd_lt g3)) (ce_A (rd_lt g3)) rfl ⟨Nat.le_of_ble_eq_true rfl, Nat.le_of_ble_eq_true rfl⟩ ⟨Nat.le_of_ble_eq_true rfl, Nat.le_of_ble_eq_true rfl⟩ hl.1 rfl (Nat.le_of_ble_eq_true rfl) d_K_endTransfer_25 (fun E _ _ _ _ hex => hex.elim) (fun rr MM H locs hp hW => ?_)
  obtain ⟨rfl, rfl⟩ := hp
  obtain rfl := Option.some.inj hf
  exact rd_vret C9 hlk hret hW ⟨rfl, rfl⟩ (by decide) (by decide) d_K_endTransfer_28
def lb_S_handOverUnder_2 (q0_0 : Nat) (q1 : Int32) (q2 : Int32) (Kf : Int32 → rd_M → Option (rd_M)) (rec : Int32 → rd_M → Option (rd_M)) (v2_3 : Int32) (v2_M : rd_M) : Option (rd_M) :=
  if ((v2_M (16 + 10 * q0_0)).1 1) ≤ v2_3 then
    Kf v2_3 v2_M
  else
    (f_S_liesUnder v2_M q0_0 v2_3 q1).bind fun r2 =>
    if r2 = 0 then
      rec (v2_3 + 1) v2_M
    else
      if rd_in v2_3 8 then
      rd_k (rd_iU v2_M (18 + 10 * q0_0 + v2_3.toNatClampNeg) 1 q2) fun M5 =>
      rec (v2_3 + 1) M5
      else none
def f_S_handOverUnder (M : rd_M) (r0_0 : Nat) (p1 : Int32) (p2 : Int32) : Option (rd_M) :=
  rd_it (fun _ _ => none) (lb_S_handOverUnder_2 r0_0 p1 p2 (fun w2_3 w2_M =>
    some w2_M)) 64 0 M
set_option maxRecDepth 100000 in
set_option maxHeartbeats 4000000 in
theorem c_S_handOverUnder {l : Launch} (hls : l.stackTraces = false) {D : va_G} {Ka : Nat → ClassId} {ad : Nat → Nat} {M : rd_M} (r0_0 : Nat) (p1 : Int32) (p2 : Int32) (h0_0 : r0_0 < 2) {o : rd_M} (hf : f_S_handOverUnder M r0_0 p1 p2 = some o) :
    rd_Met l y_S_handOverUnder b_S_handOverUnder 4 none (2, 43, 0, 0) rd_T rd_ss D rd_cl (rd_ty Ka) (dk_L Ka) ad M [.ref (ad (16 + 10 * r0_0)), .int p1, .int p2] (fun r M1 => r = none ∧ o = M1) (fun _ => False) := by
  refine rd_body (by decide) (Nat.le_of_ble_eq_true rfl) ?_
  intro p e s m below meth c C9 hlk hret hnt hTh hW ls hl
  have hx := C9.1.1
  have hb := C9.1.2.1
  have hl : lv_has ls 4 [(0, .ref (ad (16 + 10 * r0_0))), (1, .int p1), (2, .int p2)] := hl
  unfold f_S_handOverUnder at hf
  refine lv_iconst (v := 0) hx hb d_S_handOverUnder_0 (by decide) ?_
  refine lv_istore_n (lv' := [(3, .int 0), (0, .ref (ad (16 + 10 * r0_0))), (1, .int p1), (2, .int p2)]) hx hb d_S_handOverUnder_1 rfl hl (by decide) rfl (fun ls hl => ?_)
  have loop_2 : ∀ (Kf : Int32 → rd_M → Option (rd_M)) (hk_2 : ∀ (w2_3 : Int32) (w2_M : rd_M) (H : Heap) (locs : List Loc) (ls : Array Slot), Kf w2_3 w2_M = some o → rd_W D rd_cl (dk_L Ka) ad (rd_A (dk_L Ka) ad s.heap.size) s.heap w2_M H locs → lv_has ls 4 [(3, .int w2_3), (0, .ref (ad (16 + 10 * r0_0))), (1, .int p1), (2, .int p2)] → W p l e { frames := 2, cells := 0, slots := 0, locals := 43 } s m [.ref (ad (16 + 10 * r0_0)), .int p1, .int p2].toArray below meth c H locs 0 0 (rd_Z below (rd_O D rd_cl (dk_L Ka) ad M (rd_A (dk_L Ka) ad s.heap.size) 0 0 (fun r M1 => r = none ∧ o = M1) (fun _ => False)) s) (F0 m 35 ls [])) (fu : Nat) (v2_3 : Int32) (v2_M : rd_M) (H : Heap) (locs : List Loc) (ls : Array Slot), rd_it (fun _ _ => none) (lb_S_handOverUnder_2 r0_0 p1 p2 Kf) fu v2_3 v2_M = some o → rd_W D rd_cl (dk_L Ka) ad (rd_A (dk_L Ka) ad s.heap.size) s.heap v2_M H locs → lv_has ls 4 [(3, .int v2_3), (0, .ref (ad (16 + 10 * r0_0))), (1, .int p1), (2, .int p2)] → W p l e { frames := 2, cells := 0, slots := 0, locals := 43 } s m [.ref (ad (16 + 10 * r0_0)), .int p1, .int p2].toArray below meth c H locs 0 0 (rd_Z below (rd_O D rd_cl (dk_L Ka) ad M (rd_A (dk_L Ka) ad s.heap.size) 0 0 (fun r M1 => r = none ∧ o = M1) (fun _ => False)) s) (F0 m 2 ls []) := by
    intro Kf hk_2 fu
    induction fu with
    | zero => intro _ _ H locs ls hf; exact (rd_nf hf).elim
    | succ fu ih_2 =>
      intro v2_3 v2_M H locs ls hf hW hl
      rw [rd_it_s] at hf
      unfold lb_S_handOverUnder_2 at hf
      refine lv_iload_n hx hb d_S_handOverUnder_2 rfl (lv_at hl 0 rfl) ?_
      refine lv_aload_n hx hb d_S_handOverUnder_3 rfl (lv_at hl 1 rfl) ?_
      refine gf_S_made C9 hW h0_0 l_S_18 d_S_handOverUnder_4 ?_
      refine lv_icmp_ge (tgt := 35) hx hb d_S_handOverUnder_7 (by decide) (fun c6 => ?_) (fun c6 => ?_)
      · have hf := rd_t hf c6
        exact hk_2 _ _ _ _ _ hf hW (lv_sub hl [0, 1, 2, 3] rfl)
      · have hf := rd_f hf c6
        refine lv_aload_n hx hb d_S_handOverUnder_10 rfl (lv_at hl 1 rfl) ?_
        refine lv_iload_n hx hb d_S_handOverUnder_11 rfl (lv_at hl 0 rfl) ?_
        refine lv_iload_n hx hb d_S_handOverUnder_12 rfl (lv_at hl 2 rfl) ?_
        obtain ⟨r7, qr7, hf⟩ := rd_bind hf
        refine rd_callV (As := [.int v2_3, .int p1]) (rest := []) rd_gd C9 hTh hW (c_S_liesUnder hls r0_0 v2_3 p1 h0_0 qr7) kc_S_liesUnder ki_S_liesUnder ks_S_liesUnder l_S_39 rfl (lt_S h0_0) (ce_S h0_0) rfl ⟨Nat.le_of_ble_eq_true rfl, Nat.le_of_ble_eq_true rfl⟩ ⟨Nat.le_of_ble_eq_true rfl, Nat.le_of_ble_eq_true rfl⟩ hl.1 rfl (Nat.le_of_ble_eq_true rfl) d_S_handOverUnder_13 (fun E _ _ _ _ hex => hex.elim) (fun rr MM H locs hp hW => ?_)
        obtain ⟨rfl, rfl⟩ := hp
        refine lv_if_eq (tgt := 29) hx hb d_S_handOverUnder_16 (by decide) (fun c8 => ?_) (fun c8 => ?_)
        · have hf := rd_t hf c8
          refine lv_iinc (v := v2_3 + 1) (lv' := [(3, .int (v2_3 + 1)), (0, .ref (ad (16 + 10 * r0_0))), (1, .int p1), (2, .int p2)]) hx hb d_S_handOverUnder_29 hl (k := 0) rfl rfl (by decide) rfl (fun ls hl => ?_)
          refine lv_goto (tgt := 2) hx hb d_S_handOverUnder_32 (by decide) ?_
          exact ih_2 _ _ _ _ _ hf hW (lv_sub hl [0, 1, 2, 3] rfl)
        · have hf := rd_f hf c8
          refine lv_aload_n hx hb d_S_handOverUnder_19 rfl (lv_at hl 1 rfl) ?_
          refine gf_S_things C9 hW h0_0 l_S_11 d_S_handOverUnder_20 ?_
          refine lv_iload_n hx hb d_S_handOverUnder_23 rfl (lv_at hl 0 rfl) ?_
          obtain ⟨g9, hf⟩ := rd_g hf
          refine al_things C9 hW h0_0 rfl g9 d_S_handOverUnder_24 ?_
          refine lv_iload_n hx hb d_S_handOverUnder_25 rfl (lv_at hl 3 rfl) ?_
          refine pf_T_owner C9 hW h0_0 (rd_lt g9) l_S_26 d_S_handOverUnder_26 (fun H locs hW => ?_)
          obtain ⟨M10, hM10, hf⟩ := rd_k_el hf
          rw [← hM10] at hW
          refine lv_iinc (v := v2_3 + 1) (lv' := [(3, .int (v2_3 + 1)), (0, .ref (ad (16 + 10 * r0_0))), (1, .int p1), (2, .int p2)]) hx hb d_S_handOverUnder_29 hl (k := 0) rfl rfl (by decide) rfl (fun ls hl => ?_)
          refine lv_goto (tgt := 2) hx hb d_S_handOverUnder_32 (by decide) ?_
          exact ih_2 _ _ _ _ _ hf hW (lv_sub hl [0, 1, 2, 3] rfl)
  refine loop_2 _ ?_ 64 _ _ _ _ _ hf hW (lv_sub hl [0, 1, 2, 3] rfl)
  intro w2_3 w2_M H locs ls hf hW hl
  obtain rfl := Option.some.inj hf
  exact rd_vret C9 hlk hret hW ⟨rfl, rfl⟩ (by decide) (by decide) d_S_handOverUnder_35
def f_K_finishTransfer (M : rd_M) (p1 : Int32) : Option (rd_M) :=
  if rd_in p1 10 then
  (f_K_costOf M ((M (37 + 8 * p1.toNatClampNeg)).1 10) 2 1).bind fun r2 =>
  if rd_in ((M (37 + 8 * p1.toNatClampNeg)).1 10) 4 then
  (f_A_spend M (((M (37 + 8 * p1.toNatClampNeg)).1 10).toNatClampNeg) 2 r2).bind fun r4 =>
  rd_k (rd_iU r4 (37 + 8 * p1.toNatClampNeg) 10 (-1)) fun M5 =>
  rd_k (rd_iU M5 (37 + 8 * p1.toNatClampNeg) 4 ((M (37 + 8 * p1.toNatClampNeg)).1 10)) fun M6 =>
  rd_k (rd_iU M6 (37 + 8 * p1.toNatClampNeg) 5 (((M6 (37 + 8 * p1.toNatClampNeg)).1 5) + 10)) fun M7 =>
  (f_D_clearGraces M7 p1.toNatClampNeg).bind fun r8 =>
  (f_D_setGrace r8 p1.toNatClampNeg 2 r2 (((r8 0).1 4) + 3)).bind fun r9 =>
  (f_S_handOverUnder r9 1 p1 ((M (37 + 8 * p1.toNatClampNeg)).1 10)).bind fun r10 =>
  if rd_in ((M (37 + 8 * p1.toNatClampNeg)).1 4) 4 then
  (f_A_tell r10 (((M (37 + 8 * p1.toNatClampNeg)).1 4).toNatClampNeg) 2 p1).bind fun r12 =>
  if rd_in ((M (37 + 8 * p1.toNatClampNeg)).1 10) 4 then
  (f_A_tell r12 (((M (37 + 8 * p1.toNatClampNeg)).1 10).toNatClampNeg) 2 p1).bind fun r14 =>
  some r14
  else none
  else none
  else none
  else none
set_option maxRecDepth 100000 in
set_option maxHeartbeats 4000000 in
theorem c_K_finishTransfer {l : Launch} (hls : l.stackTraces = false) {D : va_G} {Ka : Nat → ClassId} {ad : Nat → Nat} {M : rd_M} (p1 : Int32)  {o : rd_M} (hf : f_K_finishTransfer M p1 = some o) :
    rd_Met l y_K_finishTransfer b_K_finishTransfer 7 none (3, 66, 0, 0) rd_T rd_ss D rd_cl (rd_ty Ka) (dk_L Ka) ad M [.ref (ad 0), .int p1] (fun r M1 => r = none ∧ o = M1) (fun _ => False) := by
  refine rd_body (by decide) (Nat.le_of_ble_eq_true rfl) ?_
  intro p e s m below meth c C9 hlk hret hnt hTh hW ls hl
  have hx := C9.1.1
  have hb := C9.1.2.1
  have hl : lv_has ls 7 [(0, .ref (ad 0)), (1, .int p1)] := hl
  unfold f_K_finishTransfer at hf
  refine lv_aload_n hx hb d_K_finishTransfer_0 rfl (lv_at hl 0 rfl) ?_
  refine gf_K_domains C9 hW l_K_29 d_K_finishTransfer_1 ?_
  refine lv_iload_n hx hb d_K_finishTransfer_4 rfl (lv_at hl 1 rfl) ?_
  obtain ⟨g1, hf⟩ := rd_g hf
  refine al_domains C9 hW rfl g1 d_K_finishTransfer_5 ?_
  refine lv_astore_n (lv' := [(2, .ref (ad (37 + 8 * p1.toNatClampNeg))), (0, .ref (ad 0)), (1, .int p1)]) hx hb d_K_finishTransfer_6 rfl hl (by decide) rfl (fun ls hl => ?_)
  refine lv_aload_n hx hb d_K_finishTransfer_7 rfl (lv_at hl 0 rfl) ?_
  refine gf_D_owner C9 hW (rd_lt g1) l_K_69 d_K_finishTransfer_8 ?_
  refine lv_istore_n (lv' := [(3, .int ((M (37 + 8 * p1.toNatClampNeg)).1 4)), (2, .ref (ad (37 + 8 * p1.toNatClampNeg))), (0, .ref (ad 0)), (1, .int p1)]) hx hb d_K_finishTransfer_11 rfl hl (by decide) rfl (fun ls hl => ?_)
  refine lv_aload_n hx hb d_K_finishTransfer_12 rfl (lv_at hl 1 rfl) ?_
  refine gf_D_transferFor C9 hW (rd_lt g1) l_K_193 d_K_finishTransfer_13 ?_
  refine lv_istore (lv' := [(4, .int ((M (37 + 8 * p1.toNatClampNeg)).1 10)), (3, .int ((M (37 + 8 * p1.toNatClampNeg)).1 4)), (2, .ref (ad (37 + 8 * p1.toNatClampNeg))), (0, .ref (ad 0)), (1, .int p1)]) hx hb d_K_finishTransfer_16 hl (by decide) rfl (fun ls hl => ?_)
  refine lv_aload_n hx hb d_K_finishTransfer_18 rfl (lv_at hl 3 rfl) ?_
  refine lv_iload hx hb d_K_finishTransfer_19 (lv_at hl 0 rfl) ?_
  refine lv_iconst (v := 2) hx hb d_K_finishTransfer_21 (by decide) ?_
  refine lv_iconst (v := 1) hx hb d_K_finishTransfer_22 (by decide) ?_
  obtain ⟨r2, qr2, hf⟩ := rd_bind hf
  refine rd_callV (As := [.int ((M (37 + 8 * p1.toNatClampNeg)).1 10), .int 2, .int 1]) (rest := []) rd_gd C9 hTh hW (c_K_costOf hls ((M (37 + 8 * p1.toNatClampNeg)).1 10) 2 1 qr2) kc_K_costOf ki_K_costOf ks_K_costOf l_K_212 rfl (lt_K) (ce_K) rfl ⟨Nat.le_of_ble_eq_true rfl, Nat.le_of_ble_eq_true rfl⟩ ⟨Nat.le_of_ble_eq_true rfl, Nat.le_of_ble_eq_true rfl⟩ hl.1 rfl (Nat.le_of_ble_eq_true rfl) d_K_finishTransfer_23 (fun E _ _ _ _ hex => hex.elim) (fun rr MM H locs hp hW => ?_)
  obtain ⟨rfl, rfl⟩ := hp
  refine lv_dstore (lv' := [(5, .double r2), (4, .int ((M (37 + 8 * p1.toNatClampNeg)).1 10)), (3, .int ((M (37 + 8 * p1.toNatClampNeg)).1 4)), (2, .ref (ad (37 + 8 * p1.toNatClampNeg))), (0, .ref (ad 0)), (1, .int p1)]) hx hb d_K_finishTransfer_26 hl (by decide) rfl (fun ls hl => ?_)
  refine lv_aload_n hx hb d_K_finishTransfer_28 rfl (lv_at hl 4 rfl) ?_
  refine gf_K_accounts C9 hW l_K_15 d_K_finishTransfer_29 ?_
  refine lv_iload hx hb d_K_finishTransfer_32 (lv_at hl 1 rfl) ?_
  obtain ⟨g3, hf⟩ := rd_g hf
  refine al_accounts C9 hW rfl g3 d_K_finishTransfer_34 ?_
  refine lv_iconst (v := 2) hx hb d_K_finishTransfer_35 (by decide) ?_
  refine lv_dload hx hb d_K_finishTransfer_36 (lv_at hl 0 rfl) ?_
  obtain ⟨r4, qr4, hf⟩ := rd_bind hf
  refine rd_callV (As := [.int 2, .double r2]) (rest := []) rd_gd C9 hTh hW (c_A_spend hls (((M (37 + 8 * p1.toNatClampNeg)).1 10).toNatClampNeg) 2 r2 (rd_lt g3) qr4) kc_A_spend ki_A_spend ks_A_spend l_K_322 rfl (lt_A (rd_lt g3)) (ce_A (rd_lt g3)) rfl ⟨Nat.le_of_ble_eq_true rfl, Nat.le_of_ble_eq_true rfl⟩ ⟨Nat.le_of_ble_eq_true rfl, Nat.le_of_ble_eq_true rfl⟩ hl.1 rfl (Nat.le_of_ble_eq_true rfl) d_K_finishTransfer_38 (fun E _ _ _ _ hex => hex.elim) (fun rr MM H locs hp hW => ?_)
  obtain ⟨rfl, rfl⟩ := hp
  refine lv_aload_n hx hb d_K_finishTransfer_41 rfl (lv_at hl 3 rfl) ?_
  refine lv_iconst (v := (-1)) hx hb d_K_finishTransfer_42 (by decide) ?_
  refine pf_D_transferFor C9 hW (rd_lt g1) l_K_193 d_K_finishTransfer_43 (fun H locs hW => ?_)
  obtain ⟨M5, hM5, hf⟩ := rd_k_el hf
  rw [← hM5] at hW
  refine lv_aload_n hx hb d_K_finishTransfer_46 rfl (lv_at hl 3 rfl) ?_
  refine lv_iload hx hb d_K_finishTransfer_47 (lv_at hl 1 rfl) ?_
  refine pf_D_owner C9 hW (rd_lt g1) l_K_69 d_K_finishTransfer_49 (fun H locs hW => ?_)
  obtain ⟨M6, hM6, hf⟩ := rd_k_el hf
  rw [← hM6] at hW
  refine lv_aload_n hx hb d_K_finishTransfer_52 rfl (lv_at hl 3 rfl) ?_
  refine lv_dup hx hb d_K_finishTransfer_53 rfl ?_
  refine gf_D_expiry C9 hW (rd_lt g1) l_K_120 d_K_finishTransfer_54 ?_
  refine lv_bipush (v := 10) hx hb d_K_finishTransfer_57 (by decide) ?_
  refine lv_iadd hx hb d_K_finishTransfer_59 ?_
  refine pf_D_expiry C9 hW (rd_lt g1) l_K_120 d_K_finishTransfer_60 (fun H locs hW => ?_)
  obtain ⟨M7, hM7, hf⟩ := rd_k_el hf
  rw [← hM7] at hW
  refine lv_aload_n hx hb d_K_finishTransfer_63 rfl (lv_at hl 3 rfl) ?_
  obtain ⟨r8, qr8, hf⟩ := rd_bind hf
  refine rd_callV (As := []) (rest := []) rd_gd C9 hTh hW (c_D_clearGraces hls p1.toNatClampNeg (rd_lt g1) qr8) kc_D_clearGraces ki_D_clearGraces ks_D_clearGraces l_K_179 rfl (lt_D (rd_lt g1)) (ce_D (rd_lt g1)) rfl ⟨Nat.le_of_ble_eq_true rfl, Nat.le_of_ble_eq_true rfl⟩ ⟨Nat.le_of_ble_eq_true rfl, Nat.le_of_ble_eq_true rfl⟩ hl.1 rfl (Nat.le_of_ble_eq_true rfl) d_K_finishTransfer_64 (fun E _ _ _ _ hex => hex.elim) (fun rr MM H locs hp hW => ?_)
  obtain ⟨rfl, rfl⟩ := hp
  refine lv_aload_n hx hb d_K_finishTransfer_67 rfl (lv_at hl 3 rfl) ?_
  refine lv_iconst (v := 2) hx hb d_K_finishTransfer_68 (by decide) ?_
  refine lv_dload hx hb d_K_finishTransfer_69 (lv_at hl 0 rfl) ?_
  refine lv_aload_n hx hb d_K_finishTransfer_71 rfl (lv_at hl 4 rfl) ?_
  refine gf_K_today C9 hW l_K_34 d_K_finishTransfer_72 ?_
  refine lv_iconst (v := 3) hx hb d_K_finishTransfer_75 (by decide) ?_
  refine lv_iadd hx hb d_K_finishTransfer_76 ?_
  obtain ⟨r9, qr9, hf⟩ := rd_bind hf
  refine rd_callV (As := [.int 2, .double r2, .int (((r8 0).1 4) + 3)]) (rest := []) rd_gd C9 hTh hW (c_D_setGrace hls p1.toNatClampNeg 2 r2 (((r8 0).1 4) + 3) (rd_lt g1) qr9) kc_D_setGrace ki_D_setGrace ks_D_setGrace l_K_116 rfl (lt_D (rd_lt g1)) (ce_D (rd_lt g1)) rfl ⟨Nat.le_of_ble_eq_true rfl, Nat.le_of_ble_eq_true rfl⟩ ⟨Nat.le_of_ble_eq_true rfl, Nat.le_of_ble_eq_true rfl⟩ hl.1 rfl (Nat.le_of_ble_eq_true rfl) d_K_finishTransfer_77 (fun E _ _ _ _ hex => hex.elim) (fun rr MM H locs hp hW => ?_)
  obtain ⟨rfl, rfl⟩ := hp
  refine lv_aload_n hx hb d_K_finishTransfer_80 rfl (lv_at hl 4 rfl) ?_
  refine gf_K_shelves C9 hW l_K_22 d_K_finishTransfer_81 ?_
  refine lv_iconst (v := 1) hx hb d_K_finishTransfer_84 (by decide) ?_
  refine al_shelves C9 hW (i := 1) (by decide) (show rd_in 1 2 by decide) d_K_finishTransfer_85 ?_
  refine lv_iload_n hx hb d_K_finishTransfer_86 rfl (lv_at hl 5 rfl) ?_
  refine lv_iload hx hb d_K_finishTransfer_87 (lv_at hl 1 rfl) ?_
  obtain ⟨r10, qr10, hf⟩ := rd_bind hf
  refine rd_callV (As := [.int p1, .int ((M (37 + 8 * p1.toNatClampNeg)).1 10)]) (rest := []) rd_gd C9 hTh hW (c_S_handOverUnder hls 1 p1 ((M (37 + 8 * p1.toNatClampNeg)).1 10) (by decide) qr10) kc_S_handOverUnder ki_S_handOverUnder ks_S_handOverUnder l_K_325 rfl (lt_S (by decide)) (ce_S (by decide)) rfl ⟨Nat.le_of_ble_eq_true rfl, Nat.le_of_ble_eq_true rfl⟩ ⟨Nat.le_of_ble_eq_true rfl, Nat.le_of_ble_eq_true rfl⟩ hl.1 rfl (Nat.le_of_ble_eq_true rfl) d_K_finishTransfer_89 (fun E _ _ _ _ hex => hex.elim) (fun rr MM H locs hp hW => ?_)
  obtain ⟨rfl, rfl⟩ := hp
  refine lv_aload_n hx hb d_K_finishTransfer_92 rfl (lv_at hl 4 rfl) ?_
  refine gf_K_accounts C9 hW l_K_15 d_K_finishTransfer_93 ?_
  refine lv_iload_n hx hb d_K_finishTransfer_96 rfl (lv_at hl 2 rfl) ?_
  obtain ⟨g11, hf⟩ := rd_g hf
  refine al_accounts C9 hW rfl g11 d_K_finishTransfer_97 ?_
  refine lv_iconst (v := 2) hx hb d_K_finishTransfer_98 (by decide) ?_
  refine lv_iload_n hx hb d_K_finishTransfer_99 rfl (lv_at hl 5 rfl) ?_
  obtain ⟨r12, qr12, hf⟩ := rd_bind hf
  refine rd_callV (As := [.int 2, .int p1]) (rest := []) rd_gd C9 hTh hW (c_A_tell hls (((M (37 + 8 * p1.toNatClampNeg)).1 4).toNatClampNeg) 2 p1 (rd_lt g11) qr12) kc_A_tell ki_A_tell ks_A_tell l_K_199 rfl (lt_A (rd_lt g11)) (ce_A (rd_lt g11)) rfl ⟨Nat.le_of_ble_eq_true rfl, Nat.le_of_ble_eq_true rfl⟩ ⟨Nat.le_of_ble_eq_true rfl, Nat.le_of_ble_eq_true rfl⟩ hl.1 rfl (Nat.le_of_ble_eq_true rfl) d_K_finishTransfer_100 (fun E _ _ _ _ hex => hex.elim) (fun rr MM H locs hp hW => ?_)
  obtain ⟨rfl, rfl⟩ := hp
  refine lv_aload_n hx hb d_K_finishTransfer_103 rfl (lv_at hl 4 rfl) ?_
  refine gf_K_accounts C9 hW l_K_15 d_K_finishTransfer_104 ?_
  refine lv_iload hx hb d_K_finishTransfer_107 (lv_at hl 1 rfl) ?_
  obtain ⟨g13, hf⟩ := rd_g hf
  refine al_accounts C9 hW rfl g13 d_K_finishTransfer_109 ?_
  refine lv_iconst (v := 2) hx hb d_K_finishTransfer_110 (by decide) ?_
  refine lv_iload_n hx hb d_K_finishTransfer_111 rfl (lv_at hl 5 rfl) ?_
  obtain ⟨r14, qr14, hf⟩ := rd_bind hf
  refine rd_callV (As := [.int 2, .int p1]) (rest := []) rd_gd C9 hTh hW (c_A_tell hls (((M (37 + 8 * p1.toNatClampNeg)).1 10).toNatClampNeg) 2 p1 (rd_lt g13) qr14) kc_A_tell ki_A_tell ks_A_tell l_K_199 rfl (lt_A (rd_lt g13)) (ce_A (rd_lt g13)) rfl ⟨Nat.le_of_ble_eq_true rfl, Nat.le_of_ble_eq_true rfl⟩ ⟨Nat.le_of_ble_eq_true rfl, Nat.le_of_ble_eq_true rfl⟩ hl.1 rfl (Nat.le_of_ble_eq_true rfl) d_K_finishTransfer_112 (fun E _ _ _ _ hex => hex.elim) (fun rr MM H locs hp hW => ?_)
  obtain ⟨rfl, rfl⟩ := hp
  obtain rfl := Option.some.inj hf
  exact rd_vret C9 hlk hret hW ⟨rfl, rfl⟩ (by decide) (by decide) d_K_finishTransfer_115
