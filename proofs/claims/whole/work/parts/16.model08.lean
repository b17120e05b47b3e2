def lb_N_pass_35 (q2 : Int32) (q1 : Int32) (Kf : Int32 → rd_M → Option (Int32 × rd_M)) (rec : Int32 → rd_M → Option (Int32 × rd_M)) (v35_3 : Int32) (v35_M : rd_M) : Option (Int32 × rd_M) :=
  if 10 ≤ v35_3 then
    Kf v35_3 v35_M
  else
    (f_N_newDay v35_M v35_3).bind fun r6 =>
    rec (v35_3 + 1) r6
def lb_N_pass_18 (q1 : Int32) (Kf : Int32 → rd_M → Option (Int32 × rd_M)) (rec : Int32 → rd_M → Option (Int32 × rd_M)) (v18_2 : Int32) (v18_M : rd_M) : Option (Int32 × rd_M) :=
  if q1 ≤ v18_2 then
    Kf v18_2 v18_M
  else
    rd_k (rd_iU v18_M 0 1 (((v18_M 0).1 1) + 1)) fun M4 =>
    rd_it (fun _ _ => none) (lb_N_pass_35 v18_2 q1 (fun w35_3 w35_M =>
      rec (v18_2 + 1) w35_M)) 64 0 M4
def f_N_pass (M : rd_M) (p1 : Int32) : Option (Int32 × rd_M) :=
  (f_N_in M p1 1 20).bind fun r1 =>
  if r1 = 0 then
    (f_N_fail M 1).bind fun r14 =>
    some (r14.1, r14.2)
  else
    rd_it (fun _ _ => none) (lb_N_pass_18 p1 (fun w18_2 w18_M =>
      (f_N_give w18_M ((w18_M 0).1 1)).bind fun r9 =>
      some (r9.1, r9.2))) 64 0 M
set_option maxRecDepth 100000 in
set_option maxHeartbeats 4000000 in
theorem c_N_pass {l : Launch} (hls : l.stackTraces = false) {D : va_G} {Ka : Nat → ClassId} {ad : Nat → Nat} {M : rd_M} (p1 : Int32)  {o : Int32 × rd_M} (hf : f_N_pass M p1 = some o) :
    rd_Met l y_N_pass b_N_pass 4 (some .int) (4, 98, 0, 0) rd_T rd_ss D rd_cl (rd_ty Ka) (rm_L Ka) ad M [.ref (ad 0), .int p1] (fun r M1 => r = some (.int o.1) ∧ o.2 = M1) (fun _ => False) := by
  refine rd_body (by decide) (Nat.le_of_ble_eq_true rfl) ?_
  intro p e s m below meth c C9 hlk hret hnt hTh hW ls hl
  have hx := C9.1.1
  have hb := C9.1.2.1
  have hl : lv_has ls 4 [(0, .ref (ad 0)), (1, .int p1)] := hl
  unfold f_N_pass at hf
  refine lv_iload_n hx hb d_N_pass_0 rfl (lv_at hl 1 rfl) ?_
  refine lv_iconst (v := 1) hx hb d_N_pass_1 (by decide) ?_
  refine lv_bipush (v := 20) hx hb d_N_pass_2 (by decide) ?_
  obtain ⟨r1, qr1, hf⟩ := rd_bind hf
  refine rd_callS (As := [.int p1, .int 1, .int 20]) (rest := []) rd_gd C9 hTh hW (c_N_in hls p1 1 20 qr1) kc_N_in ki_N_in l_N_116 rfl ⟨Nat.le_of_ble_eq_true rfl, Nat.le_of_ble_eq_true rfl⟩ ⟨Nat.le_of_ble_eq_true rfl, Nat.le_of_ble_eq_true rfl⟩ hl.1 rfl (Nat.le_of_ble_eq_true rfl) d_N_pass_4 (fun E _ _ _ _ hex => hex.elim) (fun rr MM H locs hp hW => ?_)
  obtain ⟨rfl, rfl⟩ := hp
  refine lv_if_ne (tgt := 16) hx hb d_N_pass_7 (by decide) (fun c2 => ?_) (fun c2 => ?_)
  · have hf := rd_f hf c2
    refine lv_iconst (v := 0) hx hb d_N_pass_16 (by decide) ?_
    refine lv_istore_n (lv' := [(2, .int 0), (0, .ref (ad 0)), (1, .int p1)]) hx hb d_N_pass_17 rfl hl (by decide) rfl (fun ls hl => ?_)
    have loop_18 : ∀ (Kf : Int32 → rd_M → Option (Int32 × rd_M)) (hk_18 : ∀ (w18_2 : Int32) (w18_M : rd_M) (H : Heap) (locs : List Loc) (ls : Array Slot), Kf w18_2 w18_M = some o → rd_W D rd_cl (rm_L Ka) ad (rd_A (rm_L Ka) ad s.heap.size) s.heap w18_M H locs → lv_has ls 4 [(2, .int w18_2), (0, .ref (ad 0)), (1, .int p1)] → W p l e { frames := 4, cells := 0, slots := 0, locals := 98 } s m [.ref (ad 0), .int p1].toArray below meth c H locs 0 0 (rd_Z below (rd_O D rd_cl (rm_L Ka) ad M (rd_A (rm_L Ka) ad s.heap.size) 0 0 (fun r M1 => r = some (.int o.1) ∧ o.2 = M1) (fun _ => False)) s) (F0 m 58 ls [])) (fu : Nat) (v18_2 : Int32) (v18_M : rd_M) (H : Heap) (locs : List Loc) (ls : Array Slot), rd_it (fun _ _ => none) (lb_N_pass_18 p1 Kf) fu v18_2 v18_M = some o → rd_W D rd_cl (rm_L Ka) ad (rd_A (rm_L Ka) ad s.heap.size) s.heap v18_M H locs → lv_has ls 4 [(2, .int v18_2), (0, .ref (ad 0)), (1, .int p1)] → W p l e { frames := 4, cells := 0, slots := 0, locals := 98 } s m [.ref (ad 0), .int p1].toArray below meth c H locs 0 0 (rd_Z below (rd_O D rd_cl (rm_L Ka) ad M (rd_A (rm_L Ka) ad s.heap.size) 0 0 (fun r M1 => r = some (.int o.1) ∧ o.2 = M1) (fun _ => False)) s) (F0 m 18 ls []) := by
      intro Kf hk_18 fu
      induction fu with
      | zero => intro _ _ H locs ls hf; exact (rd_nf hf).elim
      | succ fu ih_18 =>
        intro v18_2 v18_M H locs ls hf hW hl
        rw [rd_it_s] at hf
        unfold lb_N_pass_18 at hf
        refine lv_iload_n hx hb d_N_pass_18 rfl (lv_at hl 0 rfl) ?_
        refine lv_iload_n hx hb d_N_pass_19 rfl (lv_at hl 2 rfl) ?_
        refine lv_icmp_ge (tgt := 58) hx hb d_N_pass_20 (by decide) (fun c10 => ?_) (fun c10 => ?_)
        · have hf := rd_t hf c10
          exact hk_18 _ _ _ _ _ hf hW (lv_sub hl [0, 1, 2] rfl)
        · have hf := rd_f hf c10
          refine lv_aload_n hx hb d_N_pass_23 rfl (lv_at hl 1 rfl) ?_
          refine lv_dup hx hb d_N_pass_24 rfl ?_
          refine gf_N_day C9 hW l_N_98 d_N_pass_25 ?_
          refine lv_iconst (v := 1) hx hb d_N_pass_28 (by decide) ?_
          refine lv_iadd hx hb d_N_pass_29 ?_
          refine pf_N_day C9 hW l_N_98 d_N_pass_30 (fun H locs hW => ?_)
          obtain ⟨M11, hM11, hf⟩ := rd_k_el hf
          rw [← hM11] at hW
          refine lv_iconst (v := 0) hx hb d_N_pass_33 (by decide) ?_
          refine lv_istore_n (lv' := [(3, .int 0), (2, .int v18_2), (0, .ref (ad 0)), (1, .int p1)]) hx hb d_N_pass_34 rfl hl (by decide) rfl (fun ls hl => ?_)
          have loop_35 : ∀ (Kf : Int32 → rd_M → Option (Int32 × rd_M)) (hk_35 : ∀ (w35_3 : Int32) (w35_M : rd_M) (H : Heap) (locs : List Loc) (ls : Array Slot), Kf w35_3 w35_M = some o → rd_W D rd_cl (rm_L Ka) ad (rd_A (rm_L Ka) ad s.heap.size) s.heap w35_M H locs → lv_has ls 4 [(3, .int w35_3), (2, .int v18_2), (0, .ref (ad 0)), (1, .int p1)] → W p l e { frames := 4, cells := 0, slots := 0, locals := 98 } s m [.ref (ad 0), .int p1].toArray below meth c H locs 0 0 (rd_Z below (rd_O D rd_cl (rm_L Ka) ad M (rd_A (rm_L Ka) ad s.heap.size) 0 0 (fun r M1 => r = some (.int o.1) ∧ o.2 = M1) (fun _ => False)) s) (F0 m 52 ls [])) (fu : Nat) (v35_3 : Int32) (v35_M : rd_M) (H : Heap) (locs : List Loc) (ls : Array Slot), rd_it (fun _ _ => none) (lb_N_pass_35 v18_2 p1 Kf) fu v35_3 v35_M = some o → rd_W D rd_cl (rm_L Ka) ad (rd_A (rm_L Ka) ad s.heap.size) s.heap v35_M H locs → lv_has ls 4 [(3, .int v35_3), (2, .int v18_2), (0, .ref (ad 0)), (1, .int p1)] → W p l e { frames := 4, cells := 0, slots := 0, locals := 98 } s m [.ref (ad 0), .int p1].toArray below meth c H locs 0 0 (rd_Z below (rd_O D rd_cl (rm_L Ka) ad M (rd_A (rm_L Ka) ad s.heap.size) 0 0 (fun r M1 => r = some (.int o.1) ∧ o.2 = M1) (fun _ => False)) s) (F0 m 35 ls []) := by
            intro Kf hk_35 fu
            induction fu with
            | zero => intro _ _ H locs ls hf; exact (rd_nf hf).elim
            | succ fu ih_35 =>
              intro v35_3 v35_M H locs ls hf hW hl
              rw [rd_it_s] at hf
              unfold lb_N_pass_35 at hf
              refine lv_iload_n hx hb d_N_pass_35 rfl (lv_at hl 0 rfl) ?_
              refine lv_bipush (v := 10) hx hb d_N_pass_36 (by decide) ?_
              refine lv_icmp_ge (tgt := 52) hx hb d_N_pass_38 (by decide) (fun c12 => ?_) (fun c12 => ?_)
              · have hf := rd_t hf c12
                exact hk_35 _ _ _ _ _ hf hW (lv_sub hl [0, 1, 2, 3] rfl)
              · have hf := rd_f hf c12
                refine lv_aload_n hx hb d_N_pass_41 rfl (lv_at hl 2 rfl) ?_
                refine lv_iload_n hx hb d_N_pass_42 rfl (lv_at hl 0 rfl) ?_
                obtain ⟨r13, qr13, hf⟩ := rd_bind hf
                refine rd_callV (As := [.int v35_3]) (rest := []) rd_gd C9 hTh hW (c_N_newDay hls v35_3 qr13) kc_N_newDay ki_N_newDay ks_N_newDay l_N_180 rfl (lt_N) (ce_N) rfl ⟨Nat.le_of_ble_eq_true rfl, Nat.le_of_ble_eq_true rfl⟩ ⟨Nat.le_of_ble_eq_true rfl, Nat.le_of_ble_eq_true rfl⟩ hl.1 rfl (Nat.le_of_ble_eq_true rfl) d_N_pass_43 (fun E _ _ _ _ hex => hex.elim) (fun rr MM H locs hp hW => ?_)
                obtain ⟨rfl, rfl⟩ := hp
                refine lv_iinc (v := v35_3 + 1) (lv' := [(3, .int (v35_3 + 1)), (2, .int v18_2), (0, .ref (ad 0)), (1, .int p1)]) hx hb d_N_pass_46 hl (k := 0) rfl rfl (by decide) rfl (fun ls hl => ?_)
                refine lv_goto (tgt := 35) hx hb d_N_pass_49 (by decide) ?_
                exact ih_35 _ _ _ _ _ hf hW (lv_sub hl [0, 1, 2, 3] rfl)
          refine loop_35 _ ?_ 64 _ _ _ _ _ hf hW (lv_sub hl [0, 1, 2, 3] rfl)
          intro w35_3 w35_M H locs ls hf hW hl
          refine lv_iinc (v := v18_2 + 1) (lv' := [(2, .int (v18_2 + 1)), (3, .int w35_3), (0, .ref (ad 0)), (1, .int p1)]) hx hb d_N_pass_52 hl (k := 1) rfl rfl (by decide) rfl (fun ls hl => ?_)
          refine lv_goto (tgt := 18) hx hb d_N_pass_55 (by decide) ?_
          exact ih_18 _ _ _ _ _ hf hW (lv_sub hl [0, 2, 3] rfl)
    refine loop_18 _ ?_ 64 _ _ _ _ _ hf hW (lv_sub hl [0, 1, 2] rfl)
    intro w18_2 w18_M H locs ls hf hW hl
    refine lv_aload_n hx hb d_N_pass_58 rfl (lv_at hl 1 rfl) ?_
    refine lv_aload_n hx hb d_N_pass_59 rfl (lv_at hl 1 rfl) ?_
    refine gf_N_day C9 hW l_N_98 d_N_pass_60 ?_
    obtain ⟨r9, qr9, hf⟩ := rd_bind hf
    refine rd_callV (As := [.int ((w18_M 0).1 1)]) (rest := []) rd_gd C9 hTh hW (c_N_give hls ((w18_M 0).1 1) qr9) kc_N_give ki_N_give ks_N_give l_N_126 rfl (lt_N) (ce_N) rfl ⟨Nat.le_of_ble_eq_true rfl, Nat.le_of_ble_eq_true rfl⟩ ⟨Nat.le_of_ble_eq_true rfl, Nat.le_of_ble_eq_true rfl⟩ hl.1 rfl (Nat.le_of_ble_eq_true rfl) d_N_pass_63 (fun E _ _ _ _ hex => hex.elim) (fun rr MM H locs hp hW => ?_)
    obtain ⟨rfl, rfl⟩ := hp
    obtain rfl := Option.some.inj hf
    exact rd_iret C9 hlk hret hW ⟨rfl, rfl⟩ (by decide) (by decide) d_N_pass_66
  · have hf := rd_t hf c2
    refine lv_aload_n hx hb d_N_pass_10 rfl (lv_at hl 0 rfl) ?_
    refine lv_iconst (v := 1) hx hb d_N_pass_11 (by decide) ?_
    obtain ⟨r14, qr14, hf⟩ := rd_bind hf
    refine rd_callV (As := [.int 1]) (rest := []) rd_gd C9 hTh hW (c_N_fail hls 1 qr14) kc_N_fail ki_N_fail ks_N_fail l_N_122 rfl (lt_N) (ce_N) rfl ⟨Nat.le_of_ble_eq_true rfl, Nat.le_of_ble_eq_true rfl⟩ ⟨Nat.le_of_ble_eq_true rfl, Nat.le_of_ble_eq_true rfl⟩ hl.1 rfl (Nat.le_of_ble_eq_true rfl) d_N_pass_12 (fun E _ _ _ _ hex => hex.elim) (fun rr MM H locs hp hW => ?_)
    obtain ⟨rfl, rfl⟩ := hp
    obtain rfl := Option.some.inj hf
    exact rd_iret C9 hlk hret hW ⟨rfl, rfl⟩ (by decide) (by decide) d_N_pass_15
def f_N_message (M : rd_M) (p1 : Int32) : Option (Int32 × rd_M) :=
  (f_N_in M p1 0 3).bind fun r1 =>
  if r1 = 0 then
    (f_N_fail M 1).bind fun r8 =>
    some (r8.1, r8.2)
  else
    if rd_in p1 4 then
    if ((M 4).1 p1.toNatClampNeg) = 0 then
      (f_N_fail M 2).bind fun r7 =>
      some (r7.1, r7.2)
    else
      if rd_in (12 * p1) 48 then
      (f_N_give M ((M 5).1 ((12 * p1).toNatClampNeg))).bind fun r6 =>
      some (r6.1, r6.2)
      else none
    else none
set_option maxRecDepth 100000 in
set_option maxHeartbeats 4000000 in
theorem c_N_message {l : Launch} (hls : l.stackTraces = false) {D : va_G} {Ka : Nat → ClassId} {ad : Nat → Nat} {M : rd_M} (p1 : Int32)  {o : Int32 × rd_M} (hf : f_N_message M p1 = some o) :
    rd_Met l y_N_message b_N_message 2 (some .int) (1, 22, 0, 0) rd_T rd_ss D rd_cl (rd_ty Ka) (rm_L Ka) ad M [.ref (ad 0), .int p1] (fun r M1 => r = some (.int o.1) ∧ o.2 = M1) (fun _ => False) := by
  refine rd_body (by decide) (Nat.le_of_ble_eq_true rfl) ?_
  intro p e s m below meth c C9 hlk hret hnt hTh hW ls hl
  have hx := C9.1.1
  have hb := C9.1.2.1
  have hl : lv_has ls 2 [(0, .ref (ad 0)), (1, .int p1)] := hl
  unfold f_N_message at hf
  refine lv_iload_n hx hb d_N_message_0 rfl (lv_at hl 1 rfl) ?_
  refine lv_iconst (v := 0) hx hb d_N_message_1 (by decide) ?_
  refine lv_iconst (v := 3) hx hb d_N_message_2 (by decide) ?_
  obtain ⟨r1, qr1, hf⟩ := rd_bind hf
  refine rd_callS (As := [.int p1, .int 0, .int 3]) (rest := []) rd_gd C9 hTh hW (c_N_in hls p1 0 3 qr1) kc_N_in ki_N_in l_N_116 rfl ⟨Nat.le_of_ble_eq_true rfl, Nat.le_of_ble_eq_true rfl⟩ ⟨Nat.le_of_ble_eq_true rfl, Nat.le_of_ble_eq_true rfl⟩ hl.1 rfl (Nat.le_of_ble_eq_true rfl) d_N_message_3 (fun E _ _ _ _ hex => hex.elim) (fun rr MM H locs hp hW => ?_)
  obtain ⟨rfl, rfl⟩ := hp
  refine lv_if_ne (tgt := 15) hx hb d_N_message_6 (by decide) (fun c2 => ?_) (fun c2 => ?_)
  · have hf := rd_f hf c2
    refine lv_aload_n hx hb d_N_message_15 rfl (lv_at hl 0 rfl) ?_
    refine gf_N_messages C9 hW l_N_21 d_N_message_16 ?_
    refine lv_iload_n hx hb d_N_message_19 rfl (lv_at hl 1 rfl) ?_
    obtain ⟨g3, hf⟩ := rd_g hf
    refine al_m_messages C9 hW rfl g3 d_N_message_20 ?_
    refine lv_if_ne (tgt := 32) hx hb d_N_message_21 (by decide) (fun c4 => ?_) (fun c4 => ?_)
    · have hf := rd_f hf c4
      refine lv_aload_n hx hb d_N_message_32 rfl (lv_at hl 0 rfl) ?_
      refine lv_aload_n hx hb d_N_message_33 rfl (lv_at hl 0 rfl) ?_
      refine gf_N_message C9 hW l_N_25 d_N_message_34 ?_
      refine lv_bipush (v := 12) hx hb d_N_message_37 (by decide) ?_
      refine lv_iload_n hx hb d_N_message_39 rfl (lv_at hl 1 rfl) ?_
      refine lv_imul hx hb d_N_message_40 ?_
      obtain ⟨g5, hf⟩ := rd_g hf
      refine al_m_message C9 hW rfl g5 d_N_message_41 ?_
      obtain ⟨r6, qr6, hf⟩ := rd_bind hf
      refine rd_callV (As := [.int ((M 5).1 ((12 * p1).toNatClampNeg))]) (rest := []) rd_gd C9 hTh hW (c_N_give hls ((M 5).1 ((12 * p1).toNatClampNeg)) qr6) kc_N_give ki_N_give ks_N_give l_N_126 rfl (lt_N) (ce_N) rfl ⟨Nat.le_of_ble_eq_true rfl, Nat.le_of_ble_eq_true rfl⟩ ⟨Nat.le_of_ble_eq_true rfl, Nat.le_of_ble_eq_true rfl⟩ hl.1 rfl (Nat.le_of_ble_eq_true rfl) d_N_message_42 (fun E _ _ _ _ hex => hex.elim) (fun rr MM H locs hp hW => ?_)
      obtain ⟨rfl, rfl⟩ := hp
      obtain rfl := Option.some.inj hf
      exact rd_iret C9 hlk hret hW ⟨rfl, rfl⟩ (by decide) (by decide) d_N_message_45
    · have hf := rd_t hf c4
      refine lv_aload_n hx hb d_N_message_24 rfl (lv_at hl 0 rfl) ?_
      refine lv_iconst (v := 2) hx hb d_N_message_25 (by decide) ?_
      obtain ⟨r7, qr7, hf⟩ := rd_bind hf
      refine rd_callV (As := [.int 2]) (rest := []) rd_gd C9 hTh hW (c_N_fail hls 2 qr7) kc_N_fail ki_N_fail ks_N_fail l_N_122 rfl (lt_N) (ce_N) rfl ⟨Nat.le_of_ble_eq_true rfl, Nat.le_of_ble_eq_true rfl⟩ ⟨Nat.le_of_ble_eq_true rfl, Nat.le_of_ble_eq_true rfl⟩ hl.1 rfl (Nat.le_of_ble_eq_true rfl) d_N_message_26 (fun E _ _ _ _ hex => hex.elim) (fun rr MM H locs hp hW => ?_)
      obtain ⟨rfl, rfl⟩ := hp
      refine lv_goto (tgt := 45) hx hb d_N_message_29 (by decide) ?_
      obtain rfl := Option.some.inj hf
      exact rd_iret C9 hlk hret hW ⟨rfl, rfl⟩ (by decide) (by decide) d_N_message_45
  · have hf := rd_t hf c2
    refine lv_aload_n hx hb d_N_message_9 rfl (lv_at hl 0 rfl) ?_
    refine lv_iconst (v := 1) hx hb d_N_message_10 (by decide) ?_
    obtain ⟨r8, qr8, hf⟩ := rd_bind hf
    refine rd_callV (As := [.int 1]) (rest := []) rd_gd C9 hTh hW (c_N_fail hls 1 qr8) kc_N_fail ki_N_fail ks_N_fail l_N_122 rfl (lt_N) (ce_N) rfl ⟨Nat.le_of_ble_eq_true rfl, Nat.le_of_ble_eq_true rfl⟩ ⟨Nat.le_of_ble_eq_true rfl, Nat.le_of_ble_eq_true rfl⟩ hl.1 rfl (Nat.le_of_ble_eq_true rfl) d_N_message_11 (fun E _ _ _ _ hex => hex.elim) (fun rr MM H locs hp hW => ?_)
    obtain ⟨rfl, rfl⟩ := hp
    obtain rfl := Option.some.inj hf
    exact rd_iret C9 hlk hret hW ⟨rfl, rfl⟩ (by decide) (by decide) d_N_message_14
def f_N_acknowledge (M : rd_M) (p1 : Int32) : Option (Int32 × rd_M) :=
  (f_N_in M p1 0 3).bind fun r1 =>
  if r1 = 0 then
    (f_N_fail M 1).bind fun r9 =>
    some (r9.1, r9.2)
  else
    if rd_in p1 4 then
    if ((M 4).1 p1.toNatClampNeg) = 0 then
      (f_N_fail M 2).bind fun r8 =>
      some (r8.1, r8.2)
    else
      (f_N_drop M p1).bind fun r5 =>
      if rd_in p1 4 then
      (f_N_give r5 ((r5 4).1 p1.toNatClampNeg)).bind fun r7 =>
      some (r7.1, r7.2)
      else none
    else none
set_option maxRecDepth 100000 in
set_option maxHeartbeats 4000000 in
theorem c_N_acknowledge {l : Launch} (hls : l.stackTraces = false) {D : va_G} {Ka : Nat → ClassId} {ad : Nat → Nat} {M : rd_M} (p1 : Int32)  {o : Int32 × rd_M} (hf : f_N_acknowledge M p1 = some o) :
    rd_Met l y_N_acknowledge b_N_acknowledge 2 (some .int) (1, 22, 0, 0) rd_T rd_ss D rd_cl (rd_ty Ka) (rm_L Ka) ad M [.ref (ad 0), .int p1] (fun r M1 => r = some (.int o.1) ∧ o.2 = M1) (fun _ => False) := by
  refine rd_body (by decide) (Nat.le_of_ble_eq_true rfl) ?_
  intro p e s m below meth c C9 hlk hret hnt hTh hW ls hl
  have hx := C9.1.1
  have hb := C9.1.2.1
  have hl : lv_has ls 2 [(0, .ref (ad 0)), (1, .int p1)] := hl
  unfold f_N_acknowledge at hf
  refine lv_iload_n hx hb d_N_acknowledge_0 rfl (lv_at hl 1 rfl) ?_
  refine lv_iconst (v := 0) hx hb d_N_acknowledge_1 (by decide) ?_
  refine lv_iconst (v := 3) hx hb d_N_acknowledge_2 (by decide) ?_
  obtain ⟨r1, qr1, hf⟩ := rd_bind hf
  refine rd_callS (As := [.int p1, .int 0, .int 3]) (rest := []) rd_gd C9 hTh hW (c_N_in hls p1 0 3 qr1) kc_N_in ki_N_in l_N_116 rfl ⟨Nat.le_of_ble_eq_true rfl, Nat.le_of_ble_eq_true rfl⟩ ⟨Nat.le_of_ble_eq_true rfl, Nat.le_of_ble_eq_true rfl⟩ hl.1 rfl (Nat.le_of_ble_eq_true rfl) d_N_acknowledge_3 (fun E _ _ _ _ hex => hex.elim) (fun rr MM H locs hp hW => ?_)
  obtain ⟨rfl, rfl⟩ := hp
  refine lv_if_ne (tgt := 15) hx hb d_N_acknowledge_6 (by decide) (fun c2 => ?_) (fun c2 => ?_)
  · have hf := rd_f hf c2
    refine lv_aload_n hx hb d_N_acknowledge_15 rfl (lv_at hl 0 rfl) ?_
    refine gf_N_messages C9 hW l_N_21 d_N_acknowledge_16 ?_
    refine lv_iload_n hx hb d_N_acknowledge_19 rfl (lv_at hl 1 rfl) ?_
    obtain ⟨g3, hf⟩ := rd_g hf
    refine al_m_messages C9 hW rfl g3 d_N_acknowledge_20 ?_
    refine lv_if_ne (tgt := 30) hx hb d_N_acknowledge_21 (by decide) (fun c4 => ?_) (fun c4 => ?_)
    · have hf := rd_f hf c4
      refine lv_aload_n hx hb d_N_acknowledge_30 rfl (lv_at hl 0 rfl) ?_
      refine lv_iload_n hx hb d_N_acknowledge_31 rfl (lv_at hl 1 rfl) ?_
      obtain ⟨r5, qr5, hf⟩ := rd_bind hf
      refine rd_callV (As := [.int p1]) (rest := []) rd_gd C9 hTh hW (c_N_drop hls p1 qr5) kc_N_drop ki_N_drop ks_N_drop l_N_101 rfl (lt_N) (ce_N) rfl ⟨Nat.le_of_ble_eq_true rfl, Nat.le_of_ble_eq_true rfl⟩ ⟨Nat.le_of_ble_eq_true rfl, Nat.le_of_ble_eq_true rfl⟩ hl.1 rfl (Nat.le_of_ble_eq_true rfl) d_N_acknowledge_32 (fun E _ _ _ _ hex => hex.elim) (fun rr MM H locs hp hW => ?_)
      obtain ⟨rfl, rfl⟩ := hp
      refine lv_aload_n hx hb d_N_acknowledge_35 rfl (lv_at hl 0 rfl) ?_
      refine lv_aload_n hx hb d_N_acknowledge_36 rfl (lv_at hl 0 rfl) ?_
      refine gf_N_messages C9 hW l_N_21 d_N_acknowledge_37 ?_
      refine lv_iload_n hx hb d_N_acknowledge_40 rfl (lv_at hl 1 rfl) ?_
      obtain ⟨g6, hf⟩ := rd_g hf
      refine al_m_messages C9 hW rfl g6 d_N_acknowledge_41 ?_
      obtain ⟨r7, qr7, hf⟩ := rd_bind hf
      refine rd_callV (As := [.int ((r5 4).1 p1.toNatClampNeg)]) (rest := []) rd_gd C9 hTh hW (c_N_give hls ((r5 4).1 p1.toNatClampNeg) qr7) kc_N_give ki_N_give ks_N_give l_N_126 rfl (lt_N) (ce_N) rfl ⟨Nat.le_of_ble_eq_true rfl, Nat.le_of_ble_eq_true rfl⟩ ⟨Nat.le_of_ble_eq_true rfl, Nat.le_of_ble_eq_true rfl⟩ hl.1 rfl (Nat.le_of_ble_eq_true rfl) d_N_acknowledge_42 (fun E _ _ _ _ hex => hex.elim) (fun rr MM H locs hp hW => ?_)
      obtain ⟨rfl, rfl⟩ := hp
      obtain rfl := Option.some.inj hf
      exact rd_iret C9 hlk hret hW ⟨rfl, rfl⟩ (by decide) (by decide) d_N_acknowledge_45
    · have hf := rd_t hf c4
      refine lv_aload_n hx hb d_N_acknowledge_24 rfl (lv_at hl 0 rfl) ?_
      refine lv_iconst (v := 2) hx hb d_N_acknowledge_25 (by decide) ?_
      obtain ⟨r8, qr8, hf⟩ := rd_bind hf
      refine rd_callV (As := [.int 2]) (rest := []) rd_gd C9 hTh hW (c_N_fail hls 2 qr8) kc_N_fail ki_N_fail ks_N_fail l_N_122 rfl (lt_N) (ce_N) rfl ⟨Nat.le_of_ble_eq_true rfl, Nat.le_of_ble_eq_true rfl⟩ ⟨Nat.le_of_ble_eq_true rfl, Nat.le_of_ble_eq_true rfl⟩ hl.1 rfl (Nat.le_of_ble_eq_true rfl) d_N_acknowledge_26 (fun E _ _ _ _ hex => hex.elim) (fun rr MM H locs hp hW => ?_)
      obtain ⟨rfl, rfl⟩ := hp
      obtain rfl := Option.some.inj hf
      exact rd_iret C9 hlk hret hW ⟨rfl, rfl⟩ (by decide) (by decide) d_N_acknowledge_29
  · have hf := rd_t hf c2
    refine lv_aload_n hx hb d_N_acknowledge_9 rfl (lv_at hl 0 rfl) ?_
    refine lv_iconst (v := 1) hx hb d_N_acknowledge_10 (by decide) ?_
    obtain ⟨r9, qr9, hf⟩ := rd_bind hf
    refine rd_callV (As := [.int 1]) (rest := []) rd_gd C9 hTh hW (c_N_fail hls 1 qr9) kc_N_fail ki_N_fail ks_N_fail l_N_122 rfl (lt_N) (ce_N) rfl ⟨Nat.le_of_ble_eq_true rfl, Nat.le_of_ble_eq_true rfl⟩ ⟨Nat.le_of_ble_eq_true rfl, Nat.le_of_ble_eq_true rfl⟩ hl.1 rfl (Nat.le_of_ble_eq_true rfl) d_N_acknowledge_11 (fun E _ _ _ _ hex => hex.elim) (fun rr MM H locs hp hW => ?_)
    obtain ⟨rfl, rfl⟩ := hp
    obtain rfl := Option.some.inj hf
    exact rd_iret C9 hlk hret hW ⟨rfl, rfl⟩ (by decide) (by decide) d_N_acknowledge_14
def f_N_balance (M : rd_M) (p1 : Int32) : Option (UInt64 × rd_M) :=
  (f_N_in M p1 0 3).bind fun r1 =>
  if r1 = 0 then
    (f_N_fail M 1).bind fun r3 =>
    some (FP.i2d r3.1, r3.2)
  else
    if rd_in p1 4 then
    (f_N_shown M ((M 2).2.1 p1.toNatClampNeg)).bind fun r5 =>
    some (r5.1, r5.2)
    else none
set_option maxRecDepth 100000 in
set_option maxHeartbeats 4000000 in
theorem c_N_balance {l : Launch} (hls : l.stackTraces = false) {D : va_G} {Ka : Nat → ClassId} {ad : Nat → Nat} {M : rd_M} (p1 : Int32)  {o : UInt64 × rd_M} (hf : f_N_balance M p1 = some o) :
    rd_Met l y_N_balance b_N_balance 2 (some .double) (1, 22, 0, 0) rd_T rd_ss D rd_cl (rd_ty Ka) (rm_L Ka) ad M [.ref (ad 0), .int p1] (fun r M1 => r = some (.double o.1) ∧ o.2 = M1) (fun _ => False) := by
  refine rd_body (by decide) (Nat.le_of_ble_eq_true rfl) ?_
  intro p e s m below meth c C9 hlk hret hnt hTh hW ls hl
  have hx := C9.1.1
  have hb := C9.1.2.1
  have hl : lv_has ls 2 [(0, .ref (ad 0)), (1, .int p1)] := hl
  unfold f_N_balance at hf
  refine lv_iload_n hx hb d_N_balance_0 rfl (lv_at hl 1 rfl) ?_
  refine lv_iconst (v := 0) hx hb d_N_balance_1 (by decide) ?_
  refine lv_iconst (v := 3) hx hb d_N_balance_2 (by decide) ?_
  obtain ⟨r1, qr1, hf⟩ := rd_bind hf
  refine rd_callS (As := [.int p1, .int 0, .int 3]) (rest := []) rd_gd C9 hTh hW (c_N_in hls p1 0 3 qr1) kc_N_in ki_N_in l_N_116 rfl ⟨Nat.le_of_ble_eq_true rfl, Nat.le_of_ble_eq_true rfl⟩ ⟨Nat.le_of_ble_eq_true rfl, Nat.le_of_ble_eq_true rfl⟩ hl.1 rfl (Nat.le_of_ble_eq_true rfl) d_N_balance_3 (fun E _ _ _ _ hex => hex.elim) (fun rr MM H locs hp hW => ?_)
  obtain ⟨rfl, rfl⟩ := hp
  refine lv_if_eq (tgt := 22) hx hb d_N_balance_6 (by decide) (fun c2 => ?_) (fun c2 => ?_)
  · have hf := rd_t hf c2
    refine lv_aload_n hx hb d_N_balance_22 rfl (lv_at hl 0 rfl) ?_
    refine lv_iconst (v := 1) hx hb d_N_balance_23 (by decide) ?_
    obtain ⟨r3, qr3, hf⟩ := rd_bind hf
    refine rd_callV (As := [.int 1]) (rest := []) rd_gd C9 hTh hW (c_N_fail hls 1 qr3) kc_N_fail ki_N_fail ks_N_fail l_N_122 rfl (lt_N) (ce_N) rfl ⟨Nat.le_of_ble_eq_true rfl, Nat.le_of_ble_eq_true rfl⟩ ⟨Nat.le_of_ble_eq_true rfl, Nat.le_of_ble_eq_true rfl⟩ hl.1 rfl (Nat.le_of_ble_eq_true rfl) d_N_balance_24 (fun E _ _ _ _ hex => hex.elim) (fun rr MM H locs hp hW => ?_)
    obtain ⟨rfl, rfl⟩ := hp
    refine lv_i2d hx hb d_N_balance_27 ?_
    obtain rfl := Option.some.inj hf
    exact rd_dret C9 hlk hret hW ⟨rfl, rfl⟩ (by decide) (by decide) d_N_balance_28
  · have hf := rd_f hf c2
    refine lv_aload_n hx hb d_N_balance_9 rfl (lv_at hl 0 rfl) ?_
    refine lv_aload_n hx hb d_N_balance_10 rfl (lv_at hl 0 rfl) ?_
    refine gf_N_balance C9 hW l_N_15 d_N_balance_11 ?_
    refine lv_iload_n hx hb d_N_balance_14 rfl (lv_at hl 1 rfl) ?_
    obtain ⟨g4, hf⟩ := rd_g hf
    refine al_m_balance C9 hW rfl g4 d_N_balance_15 ?_
    obtain ⟨r5, qr5, hf⟩ := rd_bind hf
    refine rd_callV (As := [.long ((M 2).2.1 p1.toNatClampNeg)]) (rest := []) rd_gd C9 hTh hW (c_N_shown hls ((M 2).2.1 p1.toNatClampNeg) qr5) kc_N_shown ki_N_shown ks_N_shown l_N_129 rfl (lt_N) (ce_N) rfl ⟨Nat.le_of_ble_eq_true rfl, Nat.le_of_ble_eq_true rfl⟩ ⟨Nat.le_of_ble_eq_true rfl, Nat.le_of_ble_eq_true rfl⟩ hl.1 rfl (Nat.le_of_ble_eq_true rfl) d_N_balance_16 (fun E _ _ _ _ hex => hex.elim) (fun rr MM H locs hp hW => ?_)
    obtain ⟨rfl, rfl⟩ := hp
    refine lv_goto (tgt := 28) hx hb d_N_balance_19 (by decide) ?_
    obtain rfl := Option.some.inj hf
    exact rd_dret C9 hlk hret hW ⟨rfl, rfl⟩ (by decide) (by decide) d_N_balance_28
def f_N_paid (M : rd_M) (p1 : Int32) (p2 : Int32) : Option (UInt64 × rd_M) :=
  (f_N_in M p1 0 3).bind fun r1 =>
  if r1 = 0 then
    (f_N_fail M 1).bind fun r3 =>
    some (FP.i2d r3.1, r3.2)
  else
    (f_N_in M p2 0 3).bind fun r4 =>
    if r4 = 0 then
      (f_N_fail M 1).bind fun r6 =>
      some (FP.i2d r6.1, r6.2)
    else
      if rd_in ((4 * p1) + p2) 16 then
      (f_N_shown M ((M 3).2.1 (((4 * p1) + p2).toNatClampNeg))).bind fun r8 =>
      some (r8.1, r8.2)
      else none
set_option maxRecDepth 100000 in
set_option maxHeartbeats 4000000 in
theorem c_N_paid {l : Launch} (hls : l.stackTraces = false) {D : va_G} {Ka : Nat → ClassId} {ad : Nat → Nat} {M : rd_M} (p1 : Int32) (p2 : Int32)  {o : UInt64 × rd_M} (hf : f_N_paid M p1 p2 = some o) :
    rd_Met l y_N_paid b_N_paid 3 (some .double) (1, 22, 0, 0) rd_T rd_ss D rd_cl (rd_ty Ka) (rm_L Ka) ad M [.ref (ad 0), .int p1, .int p2] (fun r M1 => r = some (.double o.1) ∧ o.2 = M1) (fun _ => False) := by
  refine rd_body (by decide) (Nat.le_of_ble_eq_true rfl) ?_
  intro p e s m below meth c C9 hlk hret hnt hTh hW ls hl
  have hx := C9.1.1
  have hb := C9.1.2.1
  have hl : lv_has ls 3 [(0, .ref (ad 0)), (1, .int p1), (2, .int p2)] := hl
  unfold f_N_paid at hf
  refine lv_iload_n hx hb d_N_paid_0 rfl (lv_at hl 1 rfl) ?_
  refine lv_iconst (v := 0) hx hb d_N_paid_1 (by decide) ?_
  refine lv_iconst (v := 3) hx hb d_N_paid_2 (by decide) ?_
  obtain ⟨r1, qr1, hf⟩ := rd_bind hf
  refine rd_callS (As := [.int p1, .int 0, .int 3]) (rest := []) rd_gd C9 hTh hW (c_N_in hls p1 0 3 qr1) kc_N_in ki_N_in l_N_116 rfl ⟨Nat.le_of_ble_eq_true rfl, Nat.le_of_ble_eq_true rfl⟩ ⟨Nat.le_of_ble_eq_true rfl, Nat.le_of_ble_eq_true rfl⟩ hl.1 rfl (Nat.le_of_ble_eq_true rfl) d_N_paid_3 (fun E _ _ _ _ hex => hex.elim) (fun rr MM H locs hp hW => ?_)
  obtain ⟨rfl, rfl⟩ := hp
  refine lv_if_eq (tgt := 35) hx hb d_N_paid_6 (by decide) (fun c2 => ?_) (fun c2 => ?_)
  · have hf := rd_t hf c2
    refine lv_aload_n hx hb d_N_paid_35 rfl (lv_at hl 0 rfl) ?_
    refine lv_iconst (v := 1) hx hb d_N_paid_36 (by decide) ?_
    obtain ⟨r3, qr3, hf⟩ := rd_bind hf
    refine rd_callV (As := [.int 1]) (rest := []) rd_gd C9 hTh hW (c_N_fail hls 1 qr3) kc_N_fail ki_N_fail ks_N_fail l_N_122 rfl (lt_N) (ce_N) rfl ⟨Nat.le_of_ble_eq_true rfl, Nat.le_of_ble_eq_true rfl⟩ ⟨Nat.le_of_ble_eq_true rfl, Nat.le_of_ble_eq_true rfl⟩ hl.1 rfl (Nat.le_of_ble_eq_true rfl) d_N_paid_37 (fun E _ _ _ _ hex => hex.elim) (fun rr MM H locs hp hW => ?_)
    obtain ⟨rfl, rfl⟩ := hp
    refine lv_i2d hx hb d_N_paid_40 ?_
    obtain rfl := Option.some.inj hf
    exact rd_dret C9 hlk hret hW ⟨rfl, rfl⟩ (by decide) (by decide) d_N_paid_41
  · have hf := rd_f hf c2
    refine lv_iload_n hx hb d_N_paid_9 rfl (lv_at hl 2 rfl) ?_
    refine lv_iconst (v := 0) hx hb d_N_paid_10 (by decide) ?_
    refine lv_iconst (v := 3) hx hb d_N_paid_11 (by decide) ?_
    obtain ⟨r4, qr4, hf⟩ := rd_bind hf
    refine rd_callS (As := [.int p2, .int 0, .int 3]) (rest := []) rd_gd C9 hTh hW (c_N_in hls p2 0 3 qr4) kc_N_in ki_N_in l_N_116 rfl ⟨Nat.le_of_ble_eq_true rfl, Nat.le_of_ble_eq_true rfl⟩ ⟨Nat.le_of_ble_eq_true rfl, Nat.le_of_ble_eq_true rfl⟩ hl.1 rfl (Nat.le_of_ble_eq_true rfl) d_N_paid_12 (fun E _ _ _ _ hex => hex.elim) (fun rr MM H locs hp hW => ?_)
    obtain ⟨rfl, rfl⟩ := hp
    refine lv_if_eq (tgt := 35) hx hb d_N_paid_15 (by decide) (fun c5 => ?_) (fun c5 => ?_)
    · have hf := rd_t hf c5
      refine lv_aload_n hx hb d_N_paid_35 rfl (lv_at hl 0 rfl) ?_
      refine lv_iconst (v := 1) hx hb d_N_paid_36 (by decide) ?_
      obtain ⟨r6, qr6, hf⟩ := rd_bind hf
      refine rd_callV (As := [.int 1]) (rest := []) rd_gd C9 hTh hW (c_N_fail hls 1 qr6) kc_N_fail ki_N_fail ks_N_fail l_N_122 rfl (lt_N) (ce_N) rfl ⟨Nat.le_of_ble_eq_true rfl, Nat.le_of_ble_eq_true rfl⟩ ⟨Nat.le_of_ble_eq_true rfl, Nat.le_of_ble_eq_true rfl⟩ hl.1 rfl (Nat.le_of_ble_eq_true rfl) d_N_paid_37 (fun E _ _ _ _ hex => hex.elim) (fun rr MM H locs hp hW => ?_)
      obtain ⟨rfl, rfl⟩ := hp
      refine lv_i2d hx hb d_N_paid_40 ?_
      obtain rfl := Option.some.inj hf
      exact rd_dret C9 hlk hret hW ⟨rfl, rfl⟩ (by decide) (by decide) d_N_paid_41
    · have hf := rd_f hf c5
      refine lv_aload_n hx hb d_N_paid_18 rfl (lv_at hl 0 rfl) ?_
      refine lv_aload_n hx hb d_N_paid_19 rfl (lv_at hl 0 rfl) ?_
      refine gf_N_paid C9 hW l_N_18 d_N_paid_20 ?_
      refine lv_iconst (v := 4) hx hb d_N_paid_23 (by decide) ?_
      refine lv_iload_n hx hb d_N_paid_24 rfl (lv_at hl 1 rfl) ?_
      refine lv_imul hx hb d_N_paid_25 ?_
      refine lv_iload_n hx hb d_N_paid_26 rfl (lv_at hl 2 rfl) ?_
      refine lv_iadd hx hb d_N_paid_27 ?_
      obtain ⟨g7, hf⟩ := rd_g hf
      refine al_m_paid C9 hW rfl g7 d_N_paid_28 ?_
      obtain ⟨r8, qr8, hf⟩ := rd_bind hf
      refine rd_callV (As := [.long ((M 3).2.1 (((4 * p1) + p2).toNatClampNeg))]) (rest := []) rd_gd C9 hTh hW (c_N_shown hls ((M 3).2.1 (((4 * p1) + p2).toNatClampNeg)) qr8) kc_N_shown ki_N_shown ks_N_shown l_N_129 rfl (lt_N) (ce_N) rfl ⟨Nat.le_of_ble_eq_true rfl, Nat.le_of_ble_eq_true rfl⟩ ⟨Nat.le_of_ble_eq_true rfl, Nat.le_of_ble_eq_true rfl⟩ hl.1 rfl (Nat.le_of_ble_eq_true rfl) d_N_paid_29 (fun E _ _ _ _ hex => hex.elim) (fun rr MM H locs hp hW => ?_)
      obtain ⟨rfl, rfl⟩ := hp
      refine lv_goto (tgt := 41) hx hb d_N_paid_32 (by decide) ?_
      obtain rfl := Option.some.inj hf
      exact rd_dret C9 hlk hret hW ⟨rfl, rfl⟩ (by decide) (by decide) d_N_paid_41
def f_N_domain (M : rd_M) (p1 : Int32) (p2 : Int32) : Option (Int32 × rd_M) :=
  (f_N_in M p1 0 9).bind fun r1 =>
  if r1 = 0 then
    (f_N_fail M 1).bind fun r3 =>
    some (r3.1, r3.2)
  else
    (f_N_in M p2 0 13).bind fun r4 =>
    if r4 = 0 then
      (f_N_fail M 1).bind fun r49 =>
      some (r49.1, r49.2)
    else
      (f_N_noDomain M p1).bind fun r6 =>
      if r6 = 0 then
        (f_N_graceOn M p1 0).bind fun r8 =>
        rd_k (if r8 = 0 then 0 else 1 : Int32) fun z10 =>
        (f_N_graceOn M p1 1).bind fun r11 =>
        rd_k (if r11 = 0 then 0 else 2 : Int32) fun z13 =>
        (f_N_graceOn M p1 2).bind fun r14 =>
        rd_k (if r14 = 0 then 0 else 4 : Int32) fun z16 =>
        (f_N_graceOn M p1 4).bind fun r17 =>
        rd_k (if r17 = 0 then 0 else 16 : Int32) fun z19 =>
        if p2 < 8 then
          if p2 = 0 then
            if rd_in p1 10 then
            (f_N_give M ((M 10).1 p1.toNatClampNeg)).bind fun r23 =>
            some (r23.1, r23.2)
            else none
          else if p2 = 1 then
            if rd_in p1 10 then
            (f_N_give M ((M 11).1 p1.toNatClampNeg)).bind fun r26 =>
            some (r26.1, r26.2)
            else none
          else if p2 = 2 then
            if rd_in p1 10 then
            (f_N_give M ((M 13).1 p1.toNatClampNeg)).bind fun r29 =>
            some (r29.1, r29.2)
            else none
          else if p2 = 3 then
            if rd_in p1 10 then
            (f_N_give M ((M 14).1 p1.toNatClampNeg)).bind fun r32 =>
            some (r32.1, r32.2)
            else none
          else if p2 = 4 then
            if rd_in (2 * p1) 20 then
            (f_N_give M ((M 19).1 ((2 * p1).toNatClampNeg))).bind fun r35 =>
            some (r35.1, r35.2)
            else none
          else if p2 = 5 then
            if rd_in ((2 * p1) + 1) 20 then
            (f_N_give M ((M 19).1 (((2 * p1) + 1).toNatClampNeg))).bind fun r38 =>
            some (r38.1, r38.2)
            else none
          else if p2 = 6 then
            if rd_in p1 10 then
            (f_N_give M ((M 16).1 p1.toNatClampNeg)).bind fun r41 =>
            some (r41.1, r41.2)
            else none
          else
            (f_N_give M (((z10 + z13) + z16) + z19)).bind fun r42 =>
            some (r42.1, r42.2)
        else
          if rd_in ((2 * p1) + ((p2 - 8) / 3)) 20 then
          if ((M 19).1 (((2 * p1) + ((p2 - 8) / 3)).toNatClampNeg)) ≤ ((p2 - 8) - (p2 - 8) / 3 * 3) then
            (f_N_give M (-1)).bind fun r45 =>
            some (r45.1, r45.2)
          else
            if rd_in (((6 * p1) + (3 * ((p2 - 8) / 3))) + ((p2 - 8) - (p2 - 8) / 3 * 3)) 60 then
            (f_N_give M ((M 18).1 ((((6 * p1) + (3 * ((p2 - 8) / 3))) + ((p2 - 8) - (p2 - 8) / 3 * 3)).toNatClampNeg))).bind fun r47 =>
            some (r47.1, r47.2)
            else none
          else none
      else
        (f_N_fail M 2).bind fun r48 =>
        some (r48.1, r48.2)
set_option maxRecDepth 100000 in
set_option maxHeartbeats 4000000 in
theorem c_N_domain {l : Launch} (hls : l.stackTraces = false) {D : va_G} {Ka : Nat → ClassId} {ad : Nat → Nat} {M : rd_M} (p1 : Int32) (p2 : Int32)  {o : Int32 × rd_M} (hf : f_N_domain M p1 p2 = some o) :
    rd_Met l y_N_domain b_N_domain 6 (some .int) (1, 22, 0, 0) rd_T rd_ss D rd_cl (rd_ty Ka) (rm_L Ka) ad M [.ref (ad 0), .int p1, .int p2] (fun r M1 => r = some (.int o.1) ∧ o.2 = M1) (fun _ => False) := by
  refine rd_body (by decide) (Nat.le_of_ble_eq_true rfl) ?_
  intro p e s m below meth c C9 hlk hret hnt hTh hW ls hl
  have hx := C9.1.1
  have hb := C9.1.2.1
  have hl : lv_has ls 6 [(0, .ref (ad 0)), (1, .int p1), (2, .int p2)] := hl
  unfold f_N_domain at hf
  refine lv_iload_n hx hb d_N_domain_0 rfl (lv_at hl 1 rfl) ?_
  refine lv_iconst (v := 0) hx hb d_N_domain_1 (by decide) ?_
  refine lv_bipush (v := 9) hx hb d_N_domain_2 (by decide) ?_
  obtain ⟨r1, qr1, hf⟩ := rd_bind hf
  refine rd_callS (As := [.int p1, .int 0, .int 9]) (rest := []) rd_gd C9 hTh hW (c_N_in hls p1 0 9 qr1) kc_N_in ki_N_in l_N_116 rfl ⟨Nat.le_of_ble_eq_true rfl, Nat.le_of_ble_eq_true rfl⟩ ⟨Nat.le_of_ble_eq_true rfl, Nat.le_of_ble_eq_true rfl⟩ hl.1 rfl (Nat.le_of_ble_eq_true rfl) d_N_domain_4 (fun E _ _ _ _ hex => hex.elim) (fun rr MM H locs hp hW => ?_)
  obtain ⟨rfl, rfl⟩ := hp
  refine lv_if_eq (tgt := 20) hx hb d_N_domain_7 (by decide) (fun c2 => ?_) (fun c2 => ?_)
  · have hf := rd_t hf c2
    refine lv_aload_n hx hb d_N_domain_20 rfl (lv_at hl 0 rfl) ?_
    refine lv_iconst (v := 1) hx hb d_N_domain_21 (by decide) ?_
    obtain ⟨r3, qr3, hf⟩ := rd_bind hf
    refine rd_callV (As := [.int 1]) (rest := []) rd_gd C9 hTh hW (c_N_fail hls 1 qr3) kc_N_fail ki_N_fail ks_N_fail l_N_122 rfl (lt_N) (ce_N) rfl ⟨Nat.le_of_ble_eq_true rfl, Nat.le_of_ble_eq_true rfl⟩ ⟨Nat.le_of_ble_eq_true rfl, Nat.le_of_ble_eq_true rfl⟩ hl.1 rfl (Nat.le_of_ble_eq_true rfl) d_N_domain_22 (fun E _ _ _ _ hex => hex.elim) (fun rr MM H locs hp hW => ?_)
    obtain ⟨rfl, rfl⟩ := hp
    obtain rfl := Option.some.inj hf
    exact rd_iret C9 hlk hret hW ⟨rfl, rfl⟩ (by decide) (by decide) d_N_domain_25
  · have hf := rd_f hf c2
    refine lv_iload_n hx hb d_N_domain_10 rfl (lv_at hl 2 rfl) ?_
    refine lv_iconst (v := 0) hx hb d_N_domain_11 (by decide) ?_
    refine lv_bipush (v := 13) hx hb d_N_domain_12 (by decide) ?_
    obtain ⟨r4, qr4, hf⟩ := rd_bind hf
    refine rd_callS (As := [.int p2, .int 0, .int 13]) (rest := []) rd_gd C9 hTh hW (c_N_in hls p2 0 13 qr4) kc_N_in ki_N_in l_N_116 rfl ⟨Nat.le_of_ble_eq_true rfl, Nat.le_of_ble_eq_true rfl⟩ ⟨Nat.le_of_ble_eq_true rfl, Nat.le_of_ble_eq_true rfl⟩ hl.1 rfl (Nat.le_of_ble_eq_true rfl) d_N_domain_14 (fun E _ _ _ _ hex => hex.elim) (fun rr MM H locs hp hW => ?_)
    obtain ⟨rfl, rfl⟩ := hp
    refine lv_if_ne (tgt := 26) hx hb d_N_domain_17 (by decide) (fun c5 => ?_) (fun c5 => ?_)
    · have hf := rd_f hf c5
      refine lv_aload_n hx hb d_N_domain_26 rfl (lv_at hl 0 rfl) ?_
      refine lv_iload_n hx hb d_N_domain_27 rfl (lv_at hl 1 rfl) ?_
      obtain ⟨r6, qr6, hf⟩ := rd_bind hf
      refine rd_callV (As := [.int p1]) (rest := []) rd_gd C9 hTh hW (c_N_noDomain hls p1 qr6) kc_N_noDomain ki_N_noDomain ks_N_noDomain l_N_133 rfl (lt_N) (ce_N) rfl ⟨Nat.le_of_ble_eq_true rfl, Nat.le_of_ble_eq_true rfl⟩ ⟨Nat.le_of_ble_eq_true rfl, Nat.le_of_ble_eq_true rfl⟩ hl.1 rfl (Nat.le_of_ble_eq_true rfl) d_N_domain_28 (fun E _ _ _ _ hex => hex.elim) (fun rr MM H locs hp hW => ?_)
      obtain ⟨rfl, rfl⟩ := hp
      refine lv_if_eq (tgt := 40) hx hb d_N_domain_31 (by decide) (fun c7 => ?_) (fun c7 => ?_)
      · have hf := rd_t hf c7
        refine lv_aload_n hx hb d_N_domain_40 rfl (lv_at hl 0 rfl) ?_
        refine lv_iload_n hx hb d_N_domain_41 rfl (lv_at hl 1 rfl) ?_
        refine lv_iconst (v := 0) hx hb d_N_domain_42 (by decide) ?_
        obtain ⟨r8, qr8, hf⟩ := rd_bind hf
        refine rd_callV (As := [.int p1, .int 0]) (rest := []) rd_gd C9 hTh hW (c_N_graceOn hls p1 0 qr8) kc_N_graceOn ki_N_graceOn ks_N_graceOn l_N_165 rfl (lt_N) (ce_N) rfl ⟨Nat.le_of_ble_eq_true rfl, Nat.le_of_ble_eq_true rfl⟩ ⟨Nat.le_of_ble_eq_true rfl, Nat.le_of_ble_eq_true rfl⟩ hl.1 rfl (Nat.le_of_ble_eq_true rfl) d_N_domain_43 (fun E _ _ _ _ hex => hex.elim) (fun rr MM H locs hp hW => ?_)
        obtain ⟨rfl, rfl⟩ := hp
        obtain ⟨z10, hz10, hf⟩ := rd_k_el hf
        refine rd_sel z10 (fun z => F0 m 54 ls (.int z :: [])) hz10 (fun hJ => ?_) ?_
        · refine lv_if_eq (tgt := 53) hx hb d_N_domain_46 (by decide) (fun c9 => ?_) (fun c9 => ?_)
          · have hJ := rd_selt (g := (fun z => F0 m 54 ls (.int z :: []))) hJ c9
            refine lv_iconst (v := 0) hx hb d_N_domain_53 (by decide) ?_
            exact hJ
          · have hJ := rd_self (g := (fun z => F0 m 54 ls (.int z :: []))) hJ c9
            refine lv_iconst (v := 1) hx hb d_N_domain_49 (by decide) ?_
            refine lv_goto (tgt := 54) hx hb d_N_domain_50 (by decide) ?_
            exact hJ
        refine lv_aload_n hx hb d_N_domain_54 rfl (lv_at hl 0 rfl) ?_
        refine lv_iload_n hx hb d_N_domain_55 rfl (lv_at hl 1 rfl) ?_
        refine lv_iconst (v := 1) hx hb d_N_domain_56 (by decide) ?_
        obtain ⟨r11, qr11, hf⟩ := rd_bind hf
        refine rd_callV (As := [.int p1, .int 1]) (rest := [.int z10]) rd_gd C9 hTh hW (c_N_graceOn hls p1 1 qr11) kc_N_graceOn ki_N_graceOn ks_N_graceOn l_N_165 rfl (lt_N) (ce_N) rfl ⟨Nat.le_of_ble_eq_true rfl, Nat.le_of_ble_eq_true rfl⟩ ⟨Nat.le_of_ble_eq_true rfl, Nat.le_of_ble_eq_true rfl⟩ hl.1 rfl (Nat.le_of_ble_eq_true rfl) d_N_domain_57 (fun E _ _ _ _ hex => hex.elim) (fun rr MM H locs hp hW => ?_)
        obtain ⟨rfl, rfl⟩ := hp
        obtain ⟨z13, hz13, hf⟩ := rd_k_el hf
        refine rd_sel z13 (fun z => F0 m 68 ls (.int z :: [.int z10])) hz13 (fun hJ => ?_) ?_
        · refine lv_if_eq (tgt := 67) hx hb d_N_domain_60 (by decide) (fun c12 => ?_) (fun c12 => ?_)
          · have hJ := rd_selt (g := (fun z => F0 m 68 ls (.int z :: [.int z10]))) hJ c12
            refine lv_iconst (v := 0) hx hb d_N_domain_67 (by decide) ?_
            exact hJ
          · have hJ := rd_self (g := (fun z => F0 m 68 ls (.int z :: [.int z10]))) hJ c12
            refine lv_iconst (v := 2) hx hb d_N_domain_63 (by decide) ?_
            refine lv_goto (tgt := 68) hx hb d_N_domain_64 (by decide) ?_
            exact hJ
        refine lv_iadd hx hb d_N_domain_68 ?_
        refine lv_aload_n hx hb d_N_domain_69 rfl (lv_at hl 0 rfl) ?_
        refine lv_iload_n hx hb d_N_domain_70 rfl (lv_at hl 1 rfl) ?_
        refine lv_iconst (v := 2) hx hb d_N_domain_71 (by decide) ?_
        obtain ⟨r14, qr14, hf⟩ := rd_bind hf
        refine rd_callV (As := [.int p1, .int 2]) (rest := [.int (z10 + z13)]) rd_gd C9 hTh hW (c_N_graceOn hls p1 2 qr14) kc_N_graceOn ki_N_graceOn ks_N_graceOn l_N_165 rfl (lt_N) (ce_N) rfl ⟨Nat.le_of_ble_eq_true rfl, Nat.le_of_ble_eq_true rfl⟩ ⟨Nat.le_of_ble_eq_true rfl, Nat.le_of_ble_eq_true rfl⟩ hl.1 rfl (Nat.le_of_ble_eq_true rfl) d_N_domain_72 (fun E _ _ _ _ hex => hex.elim) (fun rr MM H locs hp hW => ?_)
        obtain ⟨rfl, rfl⟩ := hp
        obtain ⟨z16, hz16, hf⟩ := rd_k_el hf
        refine rd_sel z16 (fun z => F0 m 83 ls (.int z :: [.int (z10 + z13)])) hz16 (fun hJ => ?_) ?_
        · refine lv_if_eq (tgt := 82) hx hb d_N_domain_75 (by decide) (fun c15 => ?_) (fun c15 => ?_)
          · have hJ := rd_selt (g := (fun z => F0 m 83 ls (.int z :: [.int (z10 + z13)]))) hJ c15
            refine lv_iconst (v := 0) hx hb d_N_domain_82 (by decide) ?_
            exact hJ
          · have hJ := rd_self (g := (fun z => F0 m 83 ls (.int z :: [.int (z10 + z13)]))) hJ c15
            refine lv_iconst (v := 4) hx hb d_N_domain_78 (by decide) ?_
            refine lv_goto (tgt := 83) hx hb d_N_domain_79 (by decide) ?_
            exact hJ
        refine lv_iadd hx hb d_N_domain_83 ?_
        refine lv_aload_n hx hb d_N_domain_84 rfl (lv_at hl 0 rfl) ?_
        refine lv_iload_n hx hb d_N_domain_85 rfl (lv_at hl 1 rfl) ?_
        refine lv_iconst (v := 4) hx hb d_N_domain_86 (by decide) ?_
        obtain ⟨r17, qr17, hf⟩ := rd_bind hf
        refine rd_callV (As := [.int p1, .int 4]) (rest := [.int ((z10 + z13) + z16)]) rd_gd C9 hTh hW (c_N_graceOn hls p1 4 qr17) kc_N_graceOn ki_N_graceOn ks_N_graceOn l_N_165 rfl (lt_N) (ce_N) rfl ⟨Nat.le_of_ble_eq_true rfl, Nat.le_of_ble_eq_true rfl⟩ ⟨Nat.le_of_ble_eq_true rfl, Nat.le_of_ble_eq_true rfl⟩ hl.1 rfl (Nat.le_of_ble_eq_true rfl) d_N_domain_87 (fun E _ _ _ _ hex => hex.elim) (fun rr MM H locs hp hW => ?_)
        obtain ⟨rfl, rfl⟩ := hp
        obtain ⟨z19, hz19, hf⟩ := rd_k_el hf
        refine rd_sel z19 (fun z => F0 m 99 ls (.int z :: [.int ((z10 + z13) + z16)])) hz19 (fun hJ => ?_) ?_
        · refine lv_if_eq (tgt := 98) hx hb d_N_domain_90 (by decide) (fun c18 => ?_) (fun c18 => ?_)
          · have hJ := rd_selt (g := (fun z => F0 m 99 ls (.int z :: [.int ((z10 + z13) + z16)]))) hJ c18
            refine lv_iconst (v := 0) hx hb d_N_domain_98 (by decide) ?_
            exact hJ
          · have hJ := rd_self (g := (fun z => F0 m 99 ls (.int z :: [.int ((z10 + z13) + z16)]))) hJ c18
            refine lv_bipush (v := 16) hx hb d_N_domain_93 (by decide) ?_
            refine lv_goto (tgt := 99) hx hb d_N_domain_95 (by decide) ?_
            exact hJ
        refine lv_iadd hx hb d_N_domain_99 ?_
        refine lv_istore_n (lv' := [(3, .int (((z10 + z13) + z16) + z19)), (0, .ref (ad 0)), (1, .int p1), (2, .int p2)]) hx hb d_N_domain_100 rfl hl (by decide) rfl (fun ls hl => ?_)
        refine lv_iload_n hx hb d_N_domain_101 rfl (lv_at hl 3 rfl) ?_
        refine lv_bipush (v := 8) hx hb d_N_domain_102 (by decide) ?_
        refine lv_icmp_lt (tgt := 165) hx hb d_N_domain_104 (by decide) (fun c20 => ?_) (fun c20 => ?_)
        · have hf := rd_t hf c20
          refine lv_iload_n hx hb d_N_domain_165 rfl (lv_at hl 3 rfl) ?_
          by_cases c21 : p2 = 0
          · have hf := rd_t hf c21
            refine lv_tableIn (off := 42) (tgt := 208) hx hb d_N_domain_166 (by rw [c21]; decide) (by rw [c21]; decide) (by rw [c21]; rfl) (by decide) ?_
            refine lv_aload_n hx hb d_N_domain_208 rfl (lv_at hl 1 rfl) ?_
            refine lv_aload_n hx hb d_N_domain_209 rfl (lv_at hl 1 rfl) ?_
            refine gf_N_owner C9 hW l_N_40 d_N_domain_210 ?_
            refine lv_iload_n hx hb d_N_domain_213 rfl (lv_at hl 2 rfl) ?_
            obtain ⟨g22, hf⟩ := rd_g hf
            refine al_m_owner C9 hW rfl g22 d_N_domain_214 ?_
            obtain ⟨r23, qr23, hf⟩ := rd_bind hf
            refine rd_callV (As := [.int ((M 10).1 p1.toNatClampNeg)]) (rest := []) rd_gd C9 hTh hW (c_N_give hls ((M 10).1 p1.toNatClampNeg) qr23) kc_N_give ki_N_give ks_N_give l_N_126 rfl (lt_N) (ce_N) rfl ⟨Nat.le_of_ble_eq_true rfl, Nat.le_of_ble_eq_true rfl⟩ ⟨Nat.le_of_ble_eq_true rfl, Nat.le_of_ble_eq_true rfl⟩ hl.1 rfl (Nat.le_of_ble_eq_true rfl) d_N_domain_215 (fun E _ _ _ _ hex => hex.elim) (fun rr MM H locs hp hW => ?_)
            obtain ⟨rfl, rfl⟩ := hp
            obtain rfl := Option.some.inj hf
            exact rd_iret C9 hlk hret hW ⟨rfl, rfl⟩ (by decide) (by decide) d_N_domain_218
          have hf := rd_f hf c21
          by_cases c24 : p2 = 1
          · have hf := rd_t hf c24
            refine lv_tableIn (off := 53) (tgt := 219) hx hb d_N_domain_166 (by rw [c24]; decide) (by rw [c24]; decide) (by rw [c24]; rfl) (by decide) ?_
            refine lv_aload_n hx hb d_N_domain_219 rfl (lv_at hl 1 rfl) ?_
            refine lv_aload_n hx hb d_N_domain_220 rfl (lv_at hl 1 rfl) ?_
            refine gf_N_expiry C9 hW l_N_43 d_N_domain_221 ?_
            refine lv_iload_n hx hb d_N_domain_224 rfl (lv_at hl 2 rfl) ?_
            obtain ⟨g25, hf⟩ := rd_g hf
            refine al_m_expiry C9 hW rfl g25 d_N_domain_225 ?_
            obtain ⟨r26, qr26, hf⟩ := rd_bind hf
            refine rd_callV (As := [.int ((M 11).1 p1.toNatClampNeg)]) (rest := []) rd_gd C9 hTh hW (c_N_give hls ((M 11).1 p1.toNatClampNeg) qr26) kc_N_give ki_N_give ks_N_give l_N_126 rfl (lt_N) (ce_N) rfl ⟨Nat.le_of_ble_eq_true rfl, Nat.le_of_ble_eq_true rfl⟩ ⟨Nat.le_of_ble_eq_true rfl, Nat.le_of_ble_eq_true rfl⟩ hl.1 rfl (Nat.le_of_ble_eq_true rfl) d_N_domain_226 (fun E _ _ _ _ hex => hex.elim) (fun rr MM H locs hp hW => ?_)
            obtain ⟨rfl, rfl⟩ := hp
            obtain rfl := Option.some.inj hf
            exact rd_iret C9 hlk hret hW ⟨rfl, rfl⟩ (by decide) (by decide) d_N_domain_229
          have hf := rd_f hf c24
          by_cases c27 : p2 = 2
          · have hf := rd_t hf c27
            refine lv_tableIn (off := 64) (tgt := 230) hx hb d_N_domain_166 (by rw [c27]; decide) (by rw [c27]; decide) (by rw [c27]; rfl) (by decide) ?_
            refine lv_aload_n hx hb d_N_domain_230 rfl (lv_at hl 1 rfl) ?_
            refine lv_aload_n hx hb d_N_domain_231 rfl (lv_at hl 1 rfl) ?_
            refine gf_N_locks C9 hW l_N_49 d_N_domain_232 ?_
            refine lv_iload_n hx hb d_N_domain_235 rfl (lv_at hl 2 rfl) ?_
            obtain ⟨g28, hf⟩ := rd_g hf
            refine al_m_locks C9 hW rfl g28 d_N_domain_236 ?_
            obtain ⟨r29, qr29, hf⟩ := rd_bind hf
            refine rd_callV (As := [.int ((M 13).1 p1.toNatClampNeg)]) (rest := []) rd_gd C9 hTh hW (c_N_give hls ((M 13).1 p1.toNatClampNeg) qr29) kc_N_give ki_N_give ks_N_give l_N_126 rfl (lt_N) (ce_N) rfl ⟨Nat.le_of_ble_eq_true rfl, Nat.le_of_ble_eq_true rfl⟩ ⟨Nat.le_of_ble_eq_true rfl, Nat.le_of_ble_eq_true rfl⟩ hl.1 rfl (Nat.le_of_ble_eq_true rfl) d_N_domain_237 (fun E _ _ _ _ hex => hex.elim) (fun rr MM H locs hp hW => ?_)
            obtain ⟨rfl, rfl⟩ := hp
            obtain rfl := Option.some.inj hf
            exact rd_iret C9 hlk hret hW ⟨rfl, rfl⟩ (by decide) (by decide) d_N_domain_240
          have hf := rd_f hf c27
          by_cases c30 : p2 = 3
          · have hf := rd_t hf c30
            refine lv_tableIn (off := 75) (tgt := 241) hx hb d_N_domain_166 (by rw [c30]; decide) (by rw [c30]; decide) (by rw [c30]; rfl) (by decide) ?_
            refine lv_aload_n hx hb d_N_domain_241 rfl (lv_at hl 1 rfl) ?_
            refine lv_aload_n hx hb d_N_domain_242 rfl (lv_at hl 1 rfl) ?_
            refine gf_N_state C9 hW l_N_52 d_N_domain_243 ?_
            refine lv_iload_n hx hb d_N_domain_246 rfl (lv_at hl 2 rfl) ?_
            obtain ⟨g31, hf⟩ := rd_g hf
            refine al_m_state C9 hW rfl g31 d_N_domain_247 ?_
            obtain ⟨r32, qr32, hf⟩ := rd_bind hf
            refine rd_callV (As := [.int ((M 14).1 p1.toNatClampNeg)]) (rest := []) rd_gd C9 hTh hW (c_N_give hls ((M 14).1 p1.toNatClampNeg) qr32) kc_N_give ki_N_give ks_N_give l_N_126 rfl (lt_N) (ce_N) rfl ⟨Nat.le_of_ble_eq_true rfl, Nat.le_of_ble_eq_true rfl⟩ ⟨Nat.le_of_ble_eq_true rfl, Nat.le_of_ble_eq_true rfl⟩ hl.1 rfl (Nat.le_of_ble_eq_true rfl) d_N_domain_248 (fun E _ _ _ _ hex => hex.elim) (fun rr MM H locs hp hW => ?_)
            obtain ⟨rfl, rfl⟩ := hp
            obtain rfl := Option.some.inj hf
            exact rd_iret C9 hlk hret hW ⟨rfl, rfl⟩ (by decide) (by decide) d_N_domain_251
          have hf := rd_f hf c30
          by_cases c33 : p2 = 4
          · have hf := rd_t hf c33
            refine lv_tableIn (off := 86) (tgt := 252) hx hb d_N_domain_166 (by rw [c33]; decide) (by rw [c33]; decide) (by rw [c33]; rfl) (by decide) ?_
            refine lv_aload_n hx hb d_N_domain_252 rfl (lv_at hl 1 rfl) ?_
            refine lv_aload_n hx hb d_N_domain_253 rfl (lv_at hl 1 rfl) ?_
            refine gf_N_uses C9 hW l_N_67 d_N_domain_254 ?_
            refine lv_iconst (v := 2) hx hb d_N_domain_257 (by decide) ?_
            refine lv_iload_n hx hb d_N_domain_258 rfl (lv_at hl 2 rfl) ?_
            refine lv_imul hx hb d_N_domain_259 ?_
            obtain ⟨g34, hf⟩ := rd_g hf
            refine al_m_uses C9 hW rfl g34 d_N_domain_260 ?_
            obtain ⟨r35, qr35, hf⟩ := rd_bind hf
            refine rd_callV (As := [.int ((M 19).1 ((2 * p1).toNatClampNeg))]) (rest := []) rd_gd C9 hTh hW (c_N_give hls ((M 19).1 ((2 * p1).toNatClampNeg)) qr35) kc_N_give ki_N_give ks_N_give l_N_126 rfl (lt_N) (ce_N) rfl ⟨Nat.le_of_ble_eq_true rfl, Nat.le_of_ble_eq_true rfl⟩ ⟨Nat.le_of_ble_eq_true rfl, Nat.le_of_ble_eq_true rfl⟩ hl.1 rfl (Nat.le_of_ble_eq_true rfl) d_N_domain_261 (fun E _ _ _ _ hex => hex.elim) (fun rr MM H locs hp hW => ?_)
            obtain ⟨rfl, rfl⟩ := hp
            obtain rfl := Option.some.inj hf
            exact rd_iret C9 hlk hret hW ⟨rfl, rfl⟩ (by decide) (by decide) d_N_domain_264
          have hf := rd_f hf c33
          by_cases c36 : p2 = 5
          · have hf := rd_t hf c36
            refine lv_tableIn (off := 99) (tgt := 265) hx hb d_N_domain_166 (by rw [c36]; decide) (by rw [c36]; decide) (by rw [c36]; rfl) (by decide) ?_
            refine lv_aload_n hx hb d_N_domain_265 rfl (lv_at hl 1 rfl) ?_
            refine lv_aload_n hx hb d_N_domain_266 rfl (lv_at hl 1 rfl) ?_
            refine gf_N_uses C9 hW l_N_67 d_N_domain_267 ?_
            refine lv_iconst (v := 2) hx hb d_N_domain_270 (by decide) ?_
            refine lv_iload_n hx hb d_N_domain_271 rfl (lv_at hl 2 rfl) ?_
            refine lv_imul hx hb d_N_domain_272 ?_
            refine lv_iconst (v := 1) hx hb d_N_domain_273 (by decide) ?_
            refine lv_iadd hx hb d_N_domain_274 ?_
            obtain ⟨g37, hf⟩ := rd_g hf
            refine al_m_uses C9 hW rfl g37 d_N_domain_275 ?_
            obtain ⟨r38, qr38, hf⟩ := rd_bind hf
            refine rd_callV (As := [.int ((M 19).1 (((2 * p1) + 1).toNatClampNeg))]) (rest := []) rd_gd C9 hTh hW (c_N_give hls ((M 19).1 (((2 * p1) + 1).toNatClampNeg)) qr38) kc_N_give ki_N_give ks_N_give l_N_126 rfl (lt_N) (ce_N) rfl ⟨Nat.le_of_ble_eq_true rfl, Nat.le_of_ble_eq_true rfl⟩ ⟨Nat.le_of_ble_eq_true rfl, Nat.le_of_ble_eq_true rfl⟩ hl.1 rfl (Nat.le_of_ble_eq_true rfl) d_N_domain_276 (fun E _ _ _ _ hex => hex.elim) (fun rr MM H locs hp hW => ?_)
            obtain ⟨rfl, rfl⟩ := hp
            obtain rfl := Option.some.inj hf
            exact rd_iret C9 hlk hret hW ⟨rfl, rfl⟩ (by decide) (by decide) d_N_domain_279
          have hf := rd_f hf c36
          by_cases c39 : p2 = 6
          · have hf := rd_t hf c39
            refine lv_tableIn (off := 114) (tgt := 280) hx hb d_N_domain_166 (by rw [c39]; decide) (by rw [c39]; decide) (by rw [c39]; rfl) (by decide) ?_
            refine lv_aload_n hx hb d_N_domain_280 rfl (lv_at hl 1 rfl) ?_
            refine lv_aload_n hx hb d_N_domain_281 rfl (lv_at hl 1 rfl) ?_
            refine gf_N_wants C9 hW l_N_58 d_N_domain_282 ?_
            refine lv_iload_n hx hb d_N_domain_285 rfl (lv_at hl 2 rfl) ?_
            obtain ⟨g40, hf⟩ := rd_g hf
            refine al_m_wants C9 hW rfl g40 d_N_domain_286 ?_
            obtain ⟨r41, qr41, hf⟩ := rd_bind hf
            refine rd_callV (As := [.int ((M 16).1 p1.toNatClampNeg)]) (rest := []) rd_gd C9 hTh hW (c_N_give hls ((M 16).1 p1.toNatClampNeg) qr41) kc_N_give ki_N_give ks_N_give l_N_126 rfl (lt_N) (ce_N) rfl ⟨Nat.le_of_ble_eq_true rfl, Nat.le_of_ble_eq_true rfl⟩ ⟨Nat.le_of_ble_eq_true rfl, Nat.le_of_ble_eq_true rfl⟩ hl.1 rfl (Nat.le_of_ble_eq_true rfl) d_N_domain_287 (fun E _ _ _ _ hex => hex.elim) (fun rr MM H locs hp hW => ?_)
            obtain ⟨rfl, rfl⟩ := hp
            obtain rfl := Option.some.inj hf
            exact rd_iret C9 hlk hret hW ⟨rfl, rfl⟩ (by decide) (by decide) d_N_domain_290
          have hf := rd_f hf c39
          refine lv_tableOut (tgt := 291) hx hb d_N_domain_166 (by
            have nc21 : ¬ (p2).toInt = 0 := fun h => c21 (Int32.toInt_inj.mp h)
            have nc24 : ¬ (p2).toInt = 1 := fun h => c24 (Int32.toInt_inj.mp h)
            have nc27 : ¬ (p2).toInt = 2 := fun h => c27 (Int32.toInt_inj.mp h)
            have nc30 : ¬ (p2).toInt = 3 := fun h => c30 (Int32.toInt_inj.mp h)
            have nc33 : ¬ (p2).toInt = 4 := fun h => c33 (Int32.toInt_inj.mp h)
            have nc36 : ¬ (p2).toInt = 5 := fun h => c36 (Int32.toInt_inj.mp h)
            have nc39 : ¬ (p2).toInt = 6 := fun h => c39 (Int32.toInt_inj.mp h)
            omega) (by decide) ?_
          refine lv_aload_n hx hb d_N_domain_291 rfl (lv_at hl 1 rfl) ?_
          refine lv_iload_n hx hb d_N_domain_292 rfl (lv_at hl 0 rfl) ?_
          obtain ⟨r42, qr42, hf⟩ := rd_bind hf
          refine rd_callV (As := [.int (((z10 + z13) + z16) + z19)]) (rest := []) rd_gd C9 hTh hW (c_N_give hls (((z10 + z13) + z16) + z19) qr42) kc_N_give ki_N_give ks_N_give l_N_126 rfl (lt_N) (ce_N) rfl ⟨Nat.le_of_ble_eq_true rfl, Nat.le_of_ble_eq_true rfl⟩ ⟨Nat.le_of_ble_eq_true rfl, Nat.le_of_ble_eq_true rfl⟩ hl.1 rfl (Nat.le_of_ble_eq_true rfl) d_N_domain_293 (fun E _ _ _ _ hex => hex.elim) (fun rr MM H locs hp hW => ?_)
          obtain ⟨rfl, rfl⟩ := hp
          obtain rfl := Option.some.inj hf
          exact rd_iret C9 hlk hret hW ⟨rfl, rfl⟩ (by decide) (by decide) d_N_domain_296
        · have hf := rd_f hf c20
          refine lv_iload_n hx hb d_N_domain_107 rfl (lv_at hl 3 rfl) ?_
          refine lv_bipush (v := 8) hx hb d_N_domain_108 (by decide) ?_
          refine lv_isub hx hb d_N_domain_110 ?_
          refine lv_iconst (v := 3) hx hb d_N_domain_111 (by decide) ?_
          refine lv_idiv hx hb d_N_domain_112 (by decide) ?_
          refine lv_istore (lv' := [(4, .int ((p2 - 8) / 3)), (3, .int (((z10 + z13) + z16) + z19)), (0, .ref (ad 0)), (1, .int p1), (2, .int p2)]) hx hb d_N_domain_113 hl (by decide) rfl (fun ls hl => ?_)
          refine lv_iload_n hx hb d_N_domain_115 rfl (lv_at hl 4 rfl) ?_
          refine lv_bipush (v := 8) hx hb d_N_domain_116 (by decide) ?_
          refine lv_isub hx hb d_N_domain_118 ?_
          refine lv_iconst (v := 3) hx hb d_N_domain_119 (by decide) ?_
          refine lv_irem hx hb d_N_domain_120 (by decide) ?_
          refine lv_istore (lv' := [(5, .int ((p2 - 8) - (p2 - 8) / 3 * 3)), (4, .int ((p2 - 8) / 3)), (3, .int (((z10 + z13) + z16) + z19)), (0, .ref (ad 0)), (1, .int p1), (2, .int p2)]) hx hb d_N_domain_121 hl (by decide) rfl (fun ls hl => ?_)
          refine lv_aload_n hx hb d_N_domain_123 rfl (lv_at hl 3 rfl) ?_
          refine lv_iload hx hb d_N_domain_124 (lv_at hl 0 rfl) ?_
          refine lv_aload_n hx hb d_N_domain_126 rfl (lv_at hl 3 rfl) ?_
          refine gf_N_uses C9 hW l_N_67 d_N_domain_127 ?_
          refine lv_iconst (v := 2) hx hb d_N_domain_130 (by decide) ?_
          refine lv_iload_n hx hb d_N_domain_131 rfl (lv_at hl 4 rfl) ?_
          refine lv_imul hx hb d_N_domain_132 ?_
          refine lv_iload hx hb d_N_domain_133 (lv_at hl 1 rfl) ?_
          refine lv_iadd hx hb d_N_domain_135 ?_
          obtain ⟨g43, hf⟩ := rd_g hf
          refine al_m_uses C9 hW rfl g43 d_N_domain_136 ?_
          refine lv_icmp_ge (tgt := 160) hx hb d_N_domain_137 (by decide) (fun c44 => ?_) (fun c44 => ?_)
          · have hf := rd_t hf c44
            refine lv_iconst (v := (-1)) hx hb d_N_domain_160 (by decide) ?_
            obtain ⟨r45, qr45, hf⟩ := rd_bind hf
            refine rd_callV (As := [.int (-1)]) (rest := []) rd_gd C9 hTh hW (c_N_give hls (-1) qr45) kc_N_give ki_N_give ks_N_give l_N_126 rfl (lt_N) (ce_N) rfl ⟨Nat.le_of_ble_eq_true rfl, Nat.le_of_ble_eq_true rfl⟩ ⟨Nat.le_of_ble_eq_true rfl, Nat.le_of_ble_eq_true rfl⟩ hl.1 rfl (Nat.le_of_ble_eq_true rfl) d_N_domain_161 (fun E _ _ _ _ hex => hex.elim) (fun rr MM H locs hp hW => ?_)
            obtain ⟨rfl, rfl⟩ := hp
            obtain rfl := Option.some.inj hf
            exact rd_iret C9 hlk hret hW ⟨rfl, rfl⟩ (by decide) (by decide) d_N_domain_164
          · have hf := rd_f hf c44
            refine lv_aload_n hx hb d_N_domain_140 rfl (lv_at hl 3 rfl) ?_
            refine gf_N_used C9 hW l_N_64 d_N_domain_141 ?_
            refine lv_bipush (v := 6) hx hb d_N_domain_144 (by decide) ?_
            refine lv_iload_n hx hb d_N_domain_146 rfl (lv_at hl 4 rfl) ?_
            refine lv_imul hx hb d_N_domain_147 ?_
            refine lv_iconst (v := 3) hx hb d_N_domain_148 (by decide) ?_
            refine lv_iload hx hb d_N_domain_149 (lv_at hl 1 rfl) ?_
            refine lv_imul hx hb d_N_domain_151 ?_
            refine lv_iadd hx hb d_N_domain_152 ?_
            refine lv_iload hx hb d_N_domain_153 (lv_at hl 0 rfl) ?_
            refine lv_iadd hx hb d_N_domain_155 ?_
            obtain ⟨g46, hf⟩ := rd_g hf
            refine al_m_used C9 hW rfl g46 d_N_domain_156 ?_
            refine lv_goto (tgt := 161) hx hb d_N_domain_157 (by decide) ?_
            obtain ⟨r47, qr47, hf⟩ := rd_bind hf
            refine rd_callV (As := [.int ((M 18).1 ((((6 * p1) + (3 * ((p2 - 8) / 3))) + ((p2 - 8) - (p2 - 8) / 3 * 3)).toNatClampNeg))]) (rest := []) rd_gd C9 hTh hW (c_N_give hls ((M 18).1 ((((6 * p1) + (3 * ((p2 - 8) / 3))) + ((p2 - 8) - (p2 - 8) / 3 * 3)).toNatClampNeg)) qr47) kc_N_give ki_N_give ks_N_give l_N_126 rfl (lt_N) (ce_N) rfl ⟨Nat.le_of_ble_eq_true rfl, Nat.le_of_ble_eq_true rfl⟩ ⟨Nat.le_of_ble_eq_true rfl, Nat.le_of_ble_eq_true rfl⟩ hl.1 rfl (Nat.le_of_ble_eq_true rfl) d_N_domain_161 (fun E _ _ _ _ hex => hex.elim) (fun rr MM H locs hp hW => ?_)
            obtain ⟨rfl, rfl⟩ := hp
            obtain rfl := Option.some.inj hf
            exact rd_iret C9 hlk hret hW ⟨rfl, rfl⟩ (by decide) (by decide) d_N_domain_164
      · have hf := rd_f hf c7
        refine lv_aload_n hx hb d_N_domain_34 rfl (lv_at hl 0 rfl) ?_
        refine lv_iconst (v := 2) hx hb d_N_domain_35 (by decide) ?_
        obtain ⟨r48, qr48, hf⟩ := rd_bind hf
        refine rd_callV (As := [.int 2]) (rest := []) rd_gd C9 hTh hW (c_N_fail hls 2 qr48) kc_N_fail ki_N_fail ks_N_fail l_N_122 rfl (lt_N) (ce_N) rfl ⟨Nat.le_of_ble_eq_true rfl, Nat.le_of_ble_eq_true rfl⟩ ⟨Nat.le_of_ble_eq_true rfl, Nat.le_of_ble_eq_true rfl⟩ hl.1 rfl (Nat.le_of_ble_eq_true rfl) d_N_domain_36 (fun E _ _ _ _ hex => hex.elim) (fun rr MM H locs hp hW => ?_)
        obtain ⟨rfl, rfl⟩ := hp
        obtain rfl := Option.some.inj hf
        exact rd_iret C9 hlk hret hW ⟨rfl, rfl⟩ (by decide) (by decide) d_N_domain_39
    · have hf := rd_t hf c5
      refine lv_aload_n hx hb d_N_domain_20 rfl (lv_at hl 0 rfl) ?_
      refine lv_iconst (v := 1) hx hb d_N_domain_21 (by decide) ?_
      obtain ⟨r49, qr49, hf⟩ := rd_bind hf
      refine rd_callV (As := [.int 1]) (rest := []) rd_gd C9 hTh hW (c_N_fail hls 1 qr49) kc_N_fail ki_N_fail ks_N_fail l_N_122 rfl (lt_N) (ce_N) rfl ⟨Nat.le_of_ble_eq_true rfl, Nat.le_of_ble_eq_true rfl⟩ ⟨Nat.le_of_ble_eq_true rfl, Nat.le_of_ble_eq_true rfl⟩ hl.1 rfl (Nat.le_of_ble_eq_true rfl) d_N_domain_22 (fun E _ _ _ _ hex => hex.elim) (fun rr MM H locs hp hW => ?_)
      obtain ⟨rfl, rfl⟩ := hp
      obtain rfl := Option.some.inj hf
      exact rd_iret C9 hlk hret hW ⟨rfl, rfl⟩ (by decide) (by decide) d_N_domain_25
