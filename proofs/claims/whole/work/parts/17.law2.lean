def f_W_price (M : rd_M) (p1 : Int32) (p2 : UInt64) : Option (Int32 × rd_M) :=
  rd_c (f_K_price (fun k => M (0 + k)) p1 p2) (fun E =>
    if E = "java/lang/IllegalArgumentException" then some (1, M)
    else if E = "java/util/NoSuchElementException" then some (2, M)
    else if E = "java/lang/UnsupportedOperationException" then some (3, M)
    else if E = "java/lang/IllegalStateException" then some (4, M)
    else none) fun r1 =>
  rd_k (rd_lU (rd_pm 117 0 M r1.2) 139 0 r1.1.toInt64) fun M2 =>
  some (0, M2)
set_option maxRecDepth 100000 in
set_option maxHeartbeats 4000000 in
theorem c_W_price {l : Launch} (hls : l.stackTraces = false) {D : va_G} {Ka : Nat → ClassId} {ad : Nat → Nat} {M : rd_M} (p1 : Int32) (p2 : UInt64)  {o : Int32 × rd_M} (hf : f_W_price M p1 p2 = some o) :
    rd_MetW l y_W_price b_W_price 6 (some .int) [(0, 11, 14, 13), (0, 11, 18, 15), (0, 11, 22, 17), (0, 11, 26, 19)] (8, 135, 2, 12) rd_T rd_ss D rd_cl (rd_ty Ka) (lw_L Ka) ad M [.ref (ad 0), .int p1, .double p2, .ref (ad 139)] (fun r M1 => r = some (.int o.1) ∧ o.2 = M1) (fun _ => False) := by
  refine rd_bodyW (by decide) (Nat.le_of_ble_eq_true rfl) ?_
  intro p e s m below meth c C9 hlk hret hnt hTh hW ls hl
  have hx := C9.1.1
  have hb := C9.1.2.1
  have hl : lv_has ls 6 [(0, .ref (ad 0)), (1, .int p1), (2, .double p2), (4, .ref (ad 139))] := hl
  unfold f_W_price at hf
  refine lv_aload hx hb d_W_price_0 (lv_at hl 3 rfl) ?_
  refine lv_iconst (v := 0) hx hb d_W_price_2 (by decide) ?_
  refine lv_aload_n hx hb d_W_price_3 rfl (lv_at hl 0 rfl) ?_
  refine lv_iload_n hx hb d_W_price_4 rfl (lv_at hl 1 rfl) ?_
  refine lv_dload_n hx hb d_W_price_5 rfl (lv_at hl 2 rfl) ?_
  obtain ⟨or1, qr1, xr1, vr1⟩ := rd_c_run hf
  refine rd_callVS (k := 0) (As := [.int p1, .double p2]) (rest := [.int 0, .ref (ad 139)]) lw_EK rd_gd C9 hTh hW (c_K_price hls p1 p2 qr1) kc_K_price ki_K_price ks_K_price l_W_7 rfl lt_K ce_K rfl ⟨Nat.le_of_ble_eq_true rfl, Nat.le_of_ble_eq_true rfl⟩ ⟨Nat.le_of_ble_eq_true rfl, Nat.le_of_ble_eq_true rfl⟩ hl.1 rfl (Nat.le_of_ble_eq_true rfl) d_W_price_6 (fun E ce q9 H locs hex hW h1 h2 h3 => ?_) (fun rr MM H locs hp hW => ?_)
  · have hf := xr1 E hex
    by_cases e0 : E = "java/lang/IllegalArgumentException"
    · have hf := rd_t hf e0
      subst e0
      refine rd_caughtP (h := 14) h1 h2 h3 (fun hpl => by rw [hnt]; exact rd_rH (by decide) (by decide) (by decide) (rd_hit hpl C9.1.2.2.2.1 (C9.1.2.2.2.2 _ l_W_13) (hTh.2.2.2.1 _ (List.mem_of_getElem? (i := 0) rfl)).2 h3)) ?_
      refine lv_astore (lv' := [(5, .ref q9), (0, .ref (ad 0)), (1, .int p1), (2, .double p2), (4, .ref (ad 139))]) hx hb d_W_price_14 hl (by decide) rfl (fun ls hl => ?_)
      refine lv_iconst (v := 1) hx hb d_W_price_16 (by decide) ?_
      obtain rfl := Option.some.inj hf
      exact rd_iret C9 hlk hret hW ⟨rfl, rfl⟩ (by decide) (by decide) d_W_price_17
    have hf := rd_f hf e0
    by_cases e1 : E = "java/util/NoSuchElementException"
    · have hf := rd_t hf e1
      subst e1
      refine rd_caughtP (h := 18) h1 h2 h3 (fun hpl => by rw [hnt]; exact rd_rM (by decide) (by decide) (by decide) (rd_miss hpl C9.1.2.2.2.1 (C9.1.2.2.2.2 _ l_W_13) (hTh.2.2.2.2 (_, _) (List.mem_of_getElem? (i := 3) rfl)) h3) (rd_rH (by decide) (by decide) (by decide) (rd_hit hpl C9.1.2.2.2.1 (C9.1.2.2.2.2 _ l_W_15) (hTh.2.2.2.1 _ (List.mem_of_getElem? (i := 8) rfl)).2 h3))) ?_
      refine lv_astore (lv' := [(5, .ref q9), (0, .ref (ad 0)), (1, .int p1), (2, .double p2), (4, .ref (ad 139))]) hx hb d_W_price_18 hl (by decide) rfl (fun ls hl => ?_)
      refine lv_iconst (v := 2) hx hb d_W_price_20 (by decide) ?_
      obtain rfl := Option.some.inj hf
      exact rd_iret C9 hlk hret hW ⟨rfl, rfl⟩ (by decide) (by decide) d_W_price_21
    have hf := rd_f hf e1
    by_cases e2 : E = "java/lang/UnsupportedOperationException"
    · have hf := rd_t hf e2
      subst e2
      refine rd_caughtP (h := 22) h1 h2 h3 (fun hpl => by rw [hnt]; exact rd_rM (by decide) (by decide) (by decide) (rd_miss hpl C9.1.2.2.2.1 (C9.1.2.2.2.2 _ l_W_13) (hTh.2.2.2.2 (_, _) (List.mem_of_getElem? (i := 6) rfl)) h3) (rd_rM (by decide) (by decide) (by decide) (rd_miss hpl C9.1.2.2.2.1 (C9.1.2.2.2.2 _ l_W_15) (hTh.2.2.2.2 (_, _) (List.mem_of_getElem? (i := 7) rfl)) h3) (rd_rH (by decide) (by decide) (by decide) (rd_hit hpl C9.1.2.2.2.1 (C9.1.2.2.2.2 _ l_W_17) (hTh.2.2.2.1 _ (List.mem_of_getElem? (i := 9) rfl)).2 h3)))) ?_
      refine lv_astore (lv' := [(5, .ref q9), (0, .ref (ad 0)), (1, .int p1), (2, .double p2), (4, .ref (ad 139))]) hx hb d_W_price_22 hl (by decide) rfl (fun ls hl => ?_)
      refine lv_iconst (v := 3) hx hb d_W_price_24 (by decide) ?_
      obtain rfl := Option.some.inj hf
      exact rd_iret C9 hlk hret hW ⟨rfl, rfl⟩ (by decide) (by decide) d_W_price_25
    have hf := rd_f hf e2
    by_cases e3 : E = "java/lang/IllegalStateException"
    · have hf := rd_t hf e3
      subst e3
      refine rd_caughtP (h := 26) h1 h2 h3 (fun hpl => by rw [hnt]; exact rd_rM (by decide) (by decide) (by decide) (rd_miss hpl C9.1.2.2.2.1 (C9.1.2.2.2.2 _ l_W_13) (hTh.2.2.2.2 (_, _) (List.mem_of_getElem? (i := 9) rfl)) h3) (rd_rM (by decide) (by decide) (by decide) (rd_miss hpl C9.1.2.2.2.1 (C9.1.2.2.2.2 _ l_W_15) (hTh.2.2.2.2 (_, _) (List.mem_of_getElem? (i := 10) rfl)) h3) (rd_rM (by decide) (by decide) (by decide) (rd_miss hpl C9.1.2.2.2.1 (C9.1.2.2.2.2 _ l_W_17) (hTh.2.2.2.2 (_, _) (List.mem_of_getElem? (i := 11) rfl)) h3) (rd_rH (by decide) (by decide) (by decide) (rd_hit hpl C9.1.2.2.2.1 (C9.1.2.2.2.2 _ l_W_19) (hTh.2.2.2.1 _ (List.mem_of_getElem? (i := 7) rfl)).2 h3))))) ?_
      refine lv_astore (lv' := [(5, .ref q9), (0, .ref (ad 0)), (1, .int p1), (2, .double p2), (4, .ref (ad 139))]) hx hb d_W_price_26 hl (by decide) rfl (fun ls hl => ?_)
      refine lv_iconst (v := 4) hx hb d_W_price_28 (by decide) ?_
      obtain rfl := Option.some.inj hf
      exact rd_iret C9 hlk hret hW ⟨rfl, rfl⟩ (by decide) (by decide) d_W_price_29
    have hf := rd_f hf e3
    exact (rd_nf hf).elim
  obtain ⟨r1, er1, rfl, rfl⟩ := hp
  have hf := vr1 _ er1
  have hW : rd_W D rd_cl (lw_L Ka) ad (rd_A (lw_L Ka) ad s.heap.size) s.heap (rd_pm 117 0 M r1.2) H locs := hW
  refine lv_i2l hx hb d_W_price_9 rfl ?_
  refine as_out C9 hW (i := 0) (by decide) (show rd_in 0 1 by decide) d_W_price_10 (fun H locs hW => ?_)
  obtain ⟨M2, hM2, hf⟩ := rd_k_el hf
  rw [← hM2] at hW
  refine lv_goto (tgt := 30) hx hb d_W_price_11 (by decide) ?_
  refine lv_iconst (v := 0) hx hb d_W_price_30 (by decide) ?_
  obtain rfl := Option.some.inj hf
  exact rd_iret C9 hlk hret hW ⟨rfl, rfl⟩ (by decide) (by decide) d_W_price_31
def f_W_deposit (M : rd_M) (p1 : Int32) (p2 : UInt64) : Option (Int32 × rd_M) :=
  rd_c (f_K_deposit (fun k => M (0 + k)) p1 p2) (fun E =>
    if E = "java/lang/IllegalArgumentException" then some (1, M)
    else if E = "java/util/NoSuchElementException" then some (2, M)
    else if E = "java/lang/UnsupportedOperationException" then some (3, M)
    else if E = "java/lang/IllegalStateException" then some (4, M)
    else none) fun r1 =>
  rd_k (rd_dU (rd_pm 117 0 M r1.2) 140 0 r1.1) fun M2 =>
  some (0, M2)
set_option maxRecDepth 100000 in
set_option maxHeartbeats 4000000 in
theorem c_W_deposit {l : Launch} (hls : l.stackTraces = false) {D : va_G} {Ka : Nat → ClassId} {ad : Nat → Nat} {M : rd_M} (p1 : Int32) (p2 : UInt64)  {o : Int32 × rd_M} (hf : f_W_deposit M p1 p2 = some o) :
    rd_MetW l y_W_deposit b_W_deposit 6 (some .int) [(0, 10, 13, 13), (0, 10, 17, 15), (0, 10, 21, 17), (0, 10, 25, 19)] (9, 155, 3, 18) rd_T rd_ss D rd_cl (rd_ty Ka) (lw_L Ka) ad M [.ref (ad 0), .int p1, .double p2, .ref (ad 140)] (fun r M1 => r = some (.int o.1) ∧ o.2 = M1) (fun _ => False) := by
  refine rd_bodyW (by decide) (Nat.le_of_ble_eq_true rfl) ?_
  intro p e s m below meth c C9 hlk hret hnt hTh hW ls hl
  have hx := C9.1.1
  have hb := C9.1.2.1
  have hl : lv_has ls 6 [(0, .ref (ad 0)), (1, .int p1), (2, .double p2), (4, .ref (ad 140))] := hl
  unfold f_W_deposit at hf
  refine lv_aload hx hb d_W_deposit_0 (lv_at hl 3 rfl) ?_
  refine lv_iconst (v := 0) hx hb d_W_deposit_2 (by decide) ?_
  refine lv_aload_n hx hb d_W_deposit_3 rfl (lv_at hl 0 rfl) ?_
  refine lv_iload_n hx hb d_W_deposit_4 rfl (lv_at hl 1 rfl) ?_
  refine lv_dload_n hx hb d_W_deposit_5 rfl (lv_at hl 2 rfl) ?_
  obtain ⟨or1, qr1, xr1, vr1⟩ := rd_c_run hf
  refine rd_callVS (k := 0) (As := [.int p1, .double p2]) (rest := [.int 0, .ref (ad 140)]) lw_EK rd_gd C9 hTh hW (c_K_deposit hls p1 p2 qr1) kc_K_deposit ki_K_deposit ks_K_deposit l_W_21 rfl lt_K ce_K rfl ⟨Nat.le_of_ble_eq_true rfl, Nat.le_of_ble_eq_true rfl⟩ ⟨Nat.le_of_ble_eq_true rfl, Nat.le_of_ble_eq_true rfl⟩ hl.1 rfl (Nat.le_of_ble_eq_true rfl) d_W_deposit_6 (fun E ce q9 H locs hex hW h1 h2 h3 => ?_) (fun rr MM H locs hp hW => ?_)
  · have hf := xr1 E hex
    by_cases e0 : E = "java/lang/IllegalArgumentException"
    · have hf := rd_t hf e0
      subst e0
      refine rd_caughtP (h := 13) h1 h2 h3 (fun hpl => by rw [hnt]; exact rd_rH (by decide) (by decide) (by decide) (rd_hit hpl C9.1.2.2.2.1 (C9.1.2.2.2.2 _ l_W_13) (hTh.2.2.2.1 _ (List.mem_of_getElem? (i := 0) rfl)).2 h3)) ?_
      refine lv_astore (lv' := [(5, .ref q9), (0, .ref (ad 0)), (1, .int p1), (2, .double p2), (4, .ref (ad 140))]) hx hb d_W_deposit_13 hl (by decide) rfl (fun ls hl => ?_)
      refine lv_iconst (v := 1) hx hb d_W_deposit_15 (by decide) ?_
      obtain rfl := Option.some.inj hf
      exact rd_iret C9 hlk hret hW ⟨rfl, rfl⟩ (by decide) (by decide) d_W_deposit_16
    have hf := rd_f hf e0
    by_cases e1 : E = "java/util/NoSuchElementException"
    · have hf := rd_t hf e1
      subst e1
      refine rd_caughtP (h := 17) h1 h2 h3 (fun hpl => by rw [hnt]; exact rd_rM (by decide) (by decide) (by decide) (rd_miss hpl C9.1.2.2.2.1 (C9.1.2.2.2.2 _ l_W_13) (hTh.2.2.2.2 (_, _) (List.mem_of_getElem? (i := 3) rfl)) h3) (rd_rH (by decide) (by decide) (by decide) (rd_hit hpl C9.1.2.2.2.1 (C9.1.2.2.2.2 _ l_W_15) (hTh.2.2.2.1 _ (List.mem_of_getElem? (i := 8) rfl)).2 h3))) ?_
      refine lv_astore (lv' := [(5, .ref q9), (0, .ref (ad 0)), (1, .int p1), (2, .double p2), (4, .ref (ad 140))]) hx hb d_W_deposit_17 hl (by decide) rfl (fun ls hl => ?_)
      refine lv_iconst (v := 2) hx hb d_W_deposit_19 (by decide) ?_
      obtain rfl := Option.some.inj hf
      exact rd_iret C9 hlk hret hW ⟨rfl, rfl⟩ (by decide) (by decide) d_W_deposit_20
    have hf := rd_f hf e1
    by_cases e2 : E = "java/lang/UnsupportedOperationException"
    · have hf := rd_t hf e2
      subst e2
      refine rd_caughtP (h := 21) h1 h2 h3 (fun hpl => by rw [hnt]; exact rd_rM (by decide) (by decide) (by decide) (rd_miss hpl C9.1.2.2.2.1 (C9.1.2.2.2.2 _ l_W_13) (hTh.2.2.2.2 (_, _) (List.mem_of_getElem? (i := 6) rfl)) h3) (rd_rM (by decide) (by decide) (by decide) (rd_miss hpl C9.1.2.2.2.1 (C9.1.2.2.2.2 _ l_W_15) (hTh.2.2.2.2 (_, _) (List.mem_of_getElem? (i := 7) rfl)) h3) (rd_rH (by decide) (by decide) (by decide) (rd_hit hpl C9.1.2.2.2.1 (C9.1.2.2.2.2 _ l_W_17) (hTh.2.2.2.1 _ (List.mem_of_getElem? (i := 9) rfl)).2 h3)))) ?_
      refine lv_astore (lv' := [(5, .ref q9), (0, .ref (ad 0)), (1, .int p1), (2, .double p2), (4, .ref (ad 140))]) hx hb d_W_deposit_21 hl (by decide) rfl (fun ls hl => ?_)
      refine lv_iconst (v := 3) hx hb d_W_deposit_23 (by decide) ?_
      obtain rfl := Option.some.inj hf
      exact rd_iret C9 hlk hret hW ⟨rfl, rfl⟩ (by decide) (by decide) d_W_deposit_24
    have hf := rd_f hf e2
    by_cases e3 : E = "java/lang/IllegalStateException"
    · have hf := rd_t hf e3
      subst e3
      refine rd_caughtP (h := 25) h1 h2 h3 (fun hpl => by rw [hnt]; exact rd_rM (by decide) (by decide) (by decide) (rd_miss hpl C9.1.2.2.2.1 (C9.1.2.2.2.2 _ l_W_13) (hTh.2.2.2.2 (_, _) (List.mem_of_getElem? (i := 9) rfl)) h3) (rd_rM (by decide) (by decide) (by decide) (rd_miss hpl C9.1.2.2.2.1 (C9.1.2.2.2.2 _ l_W_15) (hTh.2.2.2.2 (_, _) (List.mem_of_getElem? (i := 10) rfl)) h3) (rd_rM (by decide) (by decide) (by decide) (rd_miss hpl C9.1.2.2.2.1 (C9.1.2.2.2.2 _ l_W_17) (hTh.2.2.2.2 (_, _) (List.mem_of_getElem? (i := 11) rfl)) h3) (rd_rH (by decide) (by decide) (by decide) (rd_hit hpl C9.1.2.2.2.1 (C9.1.2.2.2.2 _ l_W_19) (hTh.2.2.2.1 _ (List.mem_of_getElem? (i := 7) rfl)).2 h3))))) ?_
      refine lv_astore (lv' := [(5, .ref q9), (0, .ref (ad 0)), (1, .int p1), (2, .double p2), (4, .ref (ad 140))]) hx hb d_W_deposit_25 hl (by decide) rfl (fun ls hl => ?_)
      refine lv_iconst (v := 4) hx hb d_W_deposit_27 (by decide) ?_
      obtain rfl := Option.some.inj hf
      exact rd_iret C9 hlk hret hW ⟨rfl, rfl⟩ (by decide) (by decide) d_W_deposit_28
    have hf := rd_f hf e3
    exact (rd_nf hf).elim
  obtain ⟨r1, er1, rfl, rfl⟩ := hp
  have hf := vr1 _ er1
  have hW : rd_W D rd_cl (lw_L Ka) ad (rd_A (lw_L Ka) ad s.heap.size) s.heap (rd_pm 117 0 M r1.2) H locs := hW
  refine as_outD C9 hW (i := 0) (by decide) (show rd_in 0 1 by decide) d_W_deposit_9 (fun H locs hW => ?_)
  obtain ⟨M2, hM2, hf⟩ := rd_k_el hf
  rw [← hM2] at hW
  refine lv_goto (tgt := 29) hx hb d_W_deposit_10 (by decide) ?_
  refine lv_iconst (v := 0) hx hb d_W_deposit_29 (by decide) ?_
  obtain rfl := Option.some.inj hf
  exact rd_iret C9 hlk hret hW ⟨rfl, rfl⟩ (by decide) (by decide) d_W_deposit_30
def f_W_contact (M : rd_M) (p1 : Int32) : Option (Int32 × rd_M) :=
  rd_c (f_K_contact (fun k => M (0 + k)) p1) (fun E =>
    if E = "java/lang/IllegalArgumentException" then some (1, M)
    else if E = "java/util/NoSuchElementException" then some (2, M)
    else if E = "java/lang/UnsupportedOperationException" then some (3, M)
    else if E = "java/lang/IllegalStateException" then some (4, M)
    else none) fun r1 =>
  rd_k (rd_lU (rd_pm 117 0 M r1.2) 139 0 r1.1.toInt64) fun M2 =>
  some (0, M2)
set_option maxRecDepth 100000 in
set_option maxHeartbeats 4000000 in
theorem c_W_contact {l : Launch} (hls : l.stackTraces = false) {D : va_G} {Ka : Nat → ClassId} {ad : Nat → Nat} {M : rd_M} (p1 : Int32)  {o : Int32 × rd_M} (hf : f_W_contact M p1 = some o) :
    rd_MetW l y_W_contact b_W_contact 4 (some .int) [(0, 9, 12, 13), (0, 9, 15, 15), (0, 9, 18, 17), (0, 9, 21, 19)] (9, 153, 2, 12) rd_T rd_ss D rd_cl (rd_ty Ka) (lw_L Ka) ad M [.ref (ad 0), .int p1, .ref (ad 139)] (fun r M1 => r = some (.int o.1) ∧ o.2 = M1) (fun _ => False) := by
  refine rd_bodyW (by decide) (Nat.le_of_ble_eq_true rfl) ?_
  intro p e s m below meth c C9 hlk hret hnt hTh hW ls hl
  have hx := C9.1.1
  have hb := C9.1.2.1
  have hl : lv_has ls 4 [(0, .ref (ad 0)), (1, .int p1), (2, .ref (ad 139))] := hl
  unfold f_W_contact at hf
  refine lv_aload_n hx hb d_W_contact_0 rfl (lv_at hl 2 rfl) ?_
  refine lv_iconst (v := 0) hx hb d_W_contact_1 (by decide) ?_
  refine lv_aload_n hx hb d_W_contact_2 rfl (lv_at hl 0 rfl) ?_
  refine lv_iload_n hx hb d_W_contact_3 rfl (lv_at hl 1 rfl) ?_
  obtain ⟨or1, qr1, xr1, vr1⟩ := rd_c_run hf
  refine rd_callVS (k := 0) (As := [.int p1]) (rest := [.int 0, .ref (ad 139)]) lw_EK rd_gd C9 hTh hW (c_K_contact hls p1 qr1) kc_K_contact ki_K_contact ks_K_contact l_W_25 rfl lt_K ce_K rfl ⟨Nat.le_of_ble_eq_true rfl, Nat.le_of_ble_eq_true rfl⟩ ⟨Nat.le_of_ble_eq_true rfl, Nat.le_of_ble_eq_true rfl⟩ hl.1 rfl (Nat.le_of_ble_eq_true rfl) d_W_contact_4 (fun E ce q9 H locs hex hW h1 h2 h3 => ?_) (fun rr MM H locs hp hW => ?_)
  · have hf := xr1 E hex
    by_cases e0 : E = "java/lang/IllegalArgumentException"
    · have hf := rd_t hf e0
      subst e0
      refine rd_caughtP (h := 12) h1 h2 h3 (fun hpl => by rw [hnt]; exact rd_rH (by decide) (by decide) (by decide) (rd_hit hpl C9.1.2.2.2.1 (C9.1.2.2.2.2 _ l_W_13) (hTh.2.2.2.1 _ (List.mem_of_getElem? (i := 0) rfl)).2 h3)) ?_
      refine lv_astore_n (lv' := [(3, .ref q9), (0, .ref (ad 0)), (1, .int p1), (2, .ref (ad 139))]) hx hb d_W_contact_12 rfl hl (by decide) rfl (fun ls hl => ?_)
      refine lv_iconst (v := 1) hx hb d_W_contact_13 (by decide) ?_
      obtain rfl := Option.some.inj hf
      exact rd_iret C9 hlk hret hW ⟨rfl, rfl⟩ (by decide) (by decide) d_W_contact_14
    have hf := rd_f hf e0
    by_cases e1 : E = "java/util/NoSuchElementException"
    · have hf := rd_t hf e1
      subst e1
      refine rd_caughtP (h := 15) h1 h2 h3 (fun hpl => by rw [hnt]; exact rd_rM (by decide) (by decide) (by decide) (rd_miss hpl C9.1.2.2.2.1 (C9.1.2.2.2.2 _ l_W_13) (hTh.2.2.2.2 (_, _) (List.mem_of_getElem? (i := 3) rfl)) h3) (rd_rH (by decide) (by decide) (by decide) (rd_hit hpl C9.1.2.2.2.1 (C9.1.2.2.2.2 _ l_W_15) (hTh.2.2.2.1 _ (List.mem_of_getElem? (i := 8) rfl)).2 h3))) ?_
      refine lv_astore_n (lv' := [(3, .ref q9), (0, .ref (ad 0)), (1, .int p1), (2, .ref (ad 139))]) hx hb d_W_contact_15 rfl hl (by decide) rfl (fun ls hl => ?_)
      refine lv_iconst (v := 2) hx hb d_W_contact_16 (by decide) ?_
      obtain rfl := Option.some.inj hf
      exact rd_iret C9 hlk hret hW ⟨rfl, rfl⟩ (by decide) (by decide) d_W_contact_17
    have hf := rd_f hf e1
    by_cases e2 : E = "java/lang/UnsupportedOperationException"
    · have hf := rd_t hf e2
      subst e2
      refine rd_caughtP (h := 18) h1 h2 h3 (fun hpl => by rw [hnt]; exact rd_rM (by decide) (by decide) (by decide) (rd_miss hpl C9.1.2.2.2.1 (C9.1.2.2.2.2 _ l_W_13) (hTh.2.2.2.2 (_, _) (List.mem_of_getElem? (i := 6) rfl)) h3) (rd_rM (by decide) (by decide) (by decide) (rd_miss hpl C9.1.2.2.2.1 (C9.1.2.2.2.2 _ l_W_15) (hTh.2.2.2.2 (_, _) (List.mem_of_getElem? (i := 7) rfl)) h3) (rd_rH (by decide) (by decide) (by decide) (rd_hit hpl C9.1.2.2.2.1 (C9.1.2.2.2.2 _ l_W_17) (hTh.2.2.2.1 _ (List.mem_of_getElem? (i := 9) rfl)).2 h3)))) ?_
      refine lv_astore_n (lv' := [(3, .ref q9), (0, .ref (ad 0)), (1, .int p1), (2, .ref (ad 139))]) hx hb d_W_contact_18 rfl hl (by decide) rfl (fun ls hl => ?_)
      refine lv_iconst (v := 3) hx hb d_W_contact_19 (by decide) ?_
      obtain rfl := Option.some.inj hf
      exact rd_iret C9 hlk hret hW ⟨rfl, rfl⟩ (by decide) (by decide) d_W_contact_20
    have hf := rd_f hf e2
    by_cases e3 : E = "java/lang/IllegalStateException"
    · have hf := rd_t hf e3
      subst e3
      refine rd_caughtP (h := 21) h1 h2 h3 (fun hpl => by rw [hnt]; exact rd_rM (by decide) (by decide) (by decide) (rd_miss hpl C9.1.2.2.2.1 (C9.1.2.2.2.2 _ l_W_13) (hTh.2.2.2.2 (_, _) (List.mem_of_getElem? (i := 9) rfl)) h3) (rd_rM (by decide) (by decide) (by decide) (rd_miss hpl C9.1.2.2.2.1 (C9.1.2.2.2.2 _ l_W_15) (hTh.2.2.2.2 (_, _) (List.mem_of_getElem? (i := 10) rfl)) h3) (rd_rM (by decide) (by decide) (by decide) (rd_miss hpl C9.1.2.2.2.1 (C9.1.2.2.2.2 _ l_W_17) (hTh.2.2.2.2 (_, _) (List.mem_of_getElem? (i := 11) rfl)) h3) (rd_rH (by decide) (by decide) (by decide) (rd_hit hpl C9.1.2.2.2.1 (C9.1.2.2.2.2 _ l_W_19) (hTh.2.2.2.1 _ (List.mem_of_getElem? (i := 7) rfl)).2 h3))))) ?_
      refine lv_astore_n (lv' := [(3, .ref q9), (0, .ref (ad 0)), (1, .int p1), (2, .ref (ad 139))]) hx hb d_W_contact_21 rfl hl (by decide) rfl (fun ls hl => ?_)
      refine lv_iconst (v := 4) hx hb d_W_contact_22 (by decide) ?_
      obtain rfl := Option.some.inj hf
      exact rd_iret C9 hlk hret hW ⟨rfl, rfl⟩ (by decide) (by decide) d_W_contact_23
    have hf := rd_f hf e3
    exact (rd_nf hf).elim
  obtain ⟨r1, er1, rfl, rfl⟩ := hp
  have hf := vr1 _ er1
  have hW : rd_W D rd_cl (lw_L Ka) ad (rd_A (lw_L Ka) ad s.heap.size) s.heap (rd_pm 117 0 M r1.2) H locs := hW
  refine lv_i2l hx hb d_W_contact_7 rfl ?_
  refine as_out C9 hW (i := 0) (by decide) (show rd_in 0 1 by decide) d_W_contact_8 (fun H locs hW => ?_)
  obtain ⟨M2, hM2, hf⟩ := rd_k_el hf
  rw [← hM2] at hW
  refine lv_goto (tgt := 24) hx hb d_W_contact_9 (by decide) ?_
  refine lv_iconst (v := 0) hx hb d_W_contact_24 (by decide) ?_
  obtain rfl := Option.some.inj hf
  exact rd_iret C9 hlk hret hW ⟨rfl, rfl⟩ (by decide) (by decide) d_W_contact_25
def f_W_host (M : rd_M) (p1 : Int32) (p2 : Int32) (p3 : Int32) : Option (Int32 × rd_M) :=
  rd_c (f_K_host (fun k => M (0 + k)) p1 p2 p3) (fun E =>
    if E = "java/lang/IllegalArgumentException" then some (1, M)
    else if E = "java/util/NoSuchElementException" then some (2, M)
    else if E = "java/lang/UnsupportedOperationException" then some (3, M)
    else if E = "java/lang/IllegalStateException" then some (4, M)
    else none) fun r1 =>
  rd_k (rd_lU (rd_pm 117 0 M r1.2) 139 0 r1.1.toInt64) fun M2 =>
  some (0, M2)
set_option maxRecDepth 100000 in
set_option maxHeartbeats 4000000 in
theorem c_W_host {l : Launch} (hls : l.stackTraces = false) {D : va_G} {Ka : Nat → ClassId} {ad : Nat → Nat} {M : rd_M} (p1 : Int32) (p2 : Int32) (p3 : Int32)  {o : Int32 × rd_M} (hf : f_W_host M p1 p2 p3 = some o) :
    rd_MetW l y_W_host b_W_host 6 (some .int) [(0, 12, 15, 13), (0, 12, 19, 15), (0, 12, 23, 17), (0, 12, 27, 19)] (9, 155, 7, 42) rd_T rd_ss D rd_cl (rd_ty Ka) (lw_L Ka) ad M [.ref (ad 0), .int p1, .int p2, .int p3, .ref (ad 139)] (fun r M1 => r = some (.int o.1) ∧ o.2 = M1) (fun _ => False) := by
  refine rd_bodyW (by decide) (Nat.le_of_ble_eq_true rfl) ?_
  intro p e s m below meth c C9 hlk hret hnt hTh hW ls hl
  have hx := C9.1.1
  have hb := C9.1.2.1
  have hl : lv_has ls 6 [(0, .ref (ad 0)), (1, .int p1), (2, .int p2), (3, .int p3), (4, .ref (ad 139))] := hl
  unfold f_W_host at hf
  refine lv_aload hx hb d_W_host_0 (lv_at hl 4 rfl) ?_
  refine lv_iconst (v := 0) hx hb d_W_host_2 (by decide) ?_
  refine lv_aload_n hx hb d_W_host_3 rfl (lv_at hl 0 rfl) ?_
  refine lv_iload_n hx hb d_W_host_4 rfl (lv_at hl 1 rfl) ?_
  refine lv_iload_n hx hb d_W_host_5 rfl (lv_at hl 2 rfl) ?_
  refine lv_iload_n hx hb d_W_host_6 rfl (lv_at hl 3 rfl) ?_
  obtain ⟨or1, qr1, xr1, vr1⟩ := rd_c_run hf
  refine rd_callVS (k := 0) (As := [.int p1, .int p2, .int p3]) (rest := [.int 0, .ref (ad 139)]) lw_EK rd_gd C9 hTh hW (c_K_host hls p1 p2 p3 qr1) kc_K_host ki_K_host ks_K_host l_W_29 rfl lt_K ce_K rfl ⟨Nat.le_of_ble_eq_true rfl, Nat.le_of_ble_eq_true rfl⟩ ⟨Nat.le_of_ble_eq_true rfl, Nat.le_of_ble_eq_true rfl⟩ hl.1 rfl (Nat.le_of_ble_eq_true rfl) d_W_host_7 (fun E ce q9 H locs hex hW h1 h2 h3 => ?_) (fun rr MM H locs hp hW => ?_)
  · have hf := xr1 E hex
    by_cases e0 : E = "java/lang/IllegalArgumentException"
    · have hf := rd_t hf e0
      subst e0
      refine rd_caughtP (h := 15) h1 h2 h3 (fun hpl => by rw [hnt]; exact rd_rH (by decide) (by decide) (by decide) (rd_hit hpl C9.1.2.2.2.1 (C9.1.2.2.2.2 _ l_W_13) (hTh.2.2.2.1 _ (List.mem_of_getElem? (i := 0) rfl)).2 h3)) ?_
      refine lv_astore (lv' := [(5, .ref q9), (0, .ref (ad 0)), (1, .int p1), (2, .int p2), (3, .int p3), (4, .ref (ad 139))]) hx hb d_W_host_15 hl (by decide) rfl (fun ls hl => ?_)
      refine lv_iconst (v := 1) hx hb d_W_host_17 (by decide) ?_
      obtain rfl := Option.some.inj hf
      exact rd_iret C9 hlk hret hW ⟨rfl, rfl⟩ (by decide) (by decide) d_W_host_18
    have hf := rd_f hf e0
    by_cases e1 : E = "java/util/NoSuchElementException"
    · have hf := rd_t hf e1
      subst e1
      refine rd_caughtP (h := 19) h1 h2 h3 (fun hpl => by rw [hnt]; exact rd_rM (by decide) (by decide) (by decide) (rd_miss hpl C9.1.2.2.2.1 (C9.1.2.2.2.2 _ l_W_13) (hTh.2.2.2.2 (_, _) (List.mem_of_getElem? (i := 3) rfl)) h3) (rd_rH (by decide) (by decide) (by decide) (rd_hit hpl C9.1.2.2.2.1 (C9.1.2.2.2.2 _ l_W_15) (hTh.2.2.2.1 _ (List.mem_of_getElem? (i := 8) rfl)).2 h3))) ?_
      refine lv_astore (lv' := [(5, .ref q9), (0, .ref (ad 0)), (1, .int p1), (2, .int p2), (3, .int p3), (4, .ref (ad 139))]) hx hb d_W_host_19 hl (by decide) rfl (fun ls hl => ?_)
      refine lv_iconst (v := 2) hx hb d_W_host_21 (by decide) ?_
      obtain rfl := Option.some.inj hf
      exact rd_iret C9 hlk hret hW ⟨rfl, rfl⟩ (by decide) (by decide) d_W_host_22
    have hf := rd_f hf e1
    by_cases e2 : E = "java/lang/UnsupportedOperationException"
    · have hf := rd_t hf e2
      subst e2
      refine rd_caughtP (h := 23) h1 h2 h3 (fun hpl => by rw [hnt]; exact rd_rM (by decide) (by decide) (by decide) (rd_miss hpl C9.1.2.2.2.1 (C9.1.2.2.2.2 _ l_W_13) (hTh.2.2.2.2 (_, _) (List.mem_of_getElem? (i := 6) rfl)) h3) (rd_rM (by decide) (by decide) (by decide) (rd_miss hpl C9.1.2.2.2.1 (C9.1.2.2.2.2 _ l_W_15) (hTh.2.2.2.2 (_, _) (List.mem_of_getElem? (i := 7) rfl)) h3) (rd_rH (by decide) (by decide) (by decide) (rd_hit hpl C9.1.2.2.2.1 (C9.1.2.2.2.2 _ l_W_17) (hTh.2.2.2.1 _ (List.mem_of_getElem? (i := 9) rfl)).2 h3)))) ?_
      refine lv_astore (lv' := [(5, .ref q9), (0, .ref (ad 0)), (1, .int p1), (2, .int p2), (3, .int p3), (4, .ref (ad 139))]) hx hb d_W_host_23 hl (by decide) rfl (fun ls hl => ?_)
      refine lv_iconst (v := 3) hx hb d_W_host_25 (by decide) ?_
      obtain rfl := Option.some.inj hf
      exact rd_iret C9 hlk hret hW ⟨rfl, rfl⟩ (by decide) (by decide) d_W_host_26
    have hf := rd_f hf e2
    by_cases e3 : E = "java/lang/IllegalStateException"
    · have hf := rd_t hf e3
      subst e3
      refine rd_caughtP (h := 27) h1 h2 h3 (fun hpl => by rw [hnt]; exact rd_rM (by decide) (by decide) (by decide) (rd_miss hpl C9.1.2.2.2.1 (C9.1.2.2.2.2 _ l_W_13) (hTh.2.2.2.2 (_, _) (List.mem_of_getElem? (i := 9) rfl)) h3) (rd_rM (by decide) (by decide) (by decide) (rd_miss hpl C9.1.2.2.2.1 (C9.1.2.2.2.2 _ l_W_15) (hTh.2.2.2.2 (_, _) (List.mem_of_getElem? (i := 10) rfl)) h3) (rd_rM (by decide) (by decide) (by decide) (rd_miss hpl C9.1.2.2.2.1 (C9.1.2.2.2.2 _ l_W_17) (hTh.2.2.2.2 (_, _) (List.mem_of_getElem? (i := 11) rfl)) h3) (rd_rH (by decide) (by decide) (by decide) (rd_hit hpl C9.1.2.2.2.1 (C9.1.2.2.2.2 _ l_W_19) (hTh.2.2.2.1 _ (List.mem_of_getElem? (i := 7) rfl)).2 h3))))) ?_
      refine lv_astore (lv' := [(5, .ref q9), (0, .ref (ad 0)), (1, .int p1), (2, .int p2), (3, .int p3), (4, .ref (ad 139))]) hx hb d_W_host_27 hl (by decide) rfl (fun ls hl => ?_)
      refine lv_iconst (v := 4) hx hb d_W_host_29 (by decide) ?_
      obtain rfl := Option.some.inj hf
      exact rd_iret C9 hlk hret hW ⟨rfl, rfl⟩ (by decide) (by decide) d_W_host_30
    have hf := rd_f hf e3
    exact (rd_nf hf).elim
  obtain ⟨r1, er1, rfl, rfl⟩ := hp
  have hf := vr1 _ er1
  have hW : rd_W D rd_cl (lw_L Ka) ad (rd_A (lw_L Ka) ad s.heap.size) s.heap (rd_pm 117 0 M r1.2) H locs := hW
  refine lv_i2l hx hb d_W_host_10 rfl ?_
  refine as_out C9 hW (i := 0) (by decide) (show rd_in 0 1 by decide) d_W_host_11 (fun H locs hW => ?_)
  obtain ⟨M2, hM2, hf⟩ := rd_k_el hf
  rw [← hM2] at hW
  refine lv_goto (tgt := 31) hx hb d_W_host_12 (by decide) ?_
  refine lv_iconst (v := 0) hx hb d_W_host_31 (by decide) ?_
  obtain rfl := Option.some.inj hf
  exact rd_iret C9 hlk hret hW ⟨rfl, rfl⟩ (by decide) (by decide) d_W_host_32
def f_W_remove (M : rd_M) (p1 : Int32) (p2 : Int32) (p3 : Int32) : Option (Int32 × rd_M) :=
  rd_c (f_K_remove (fun k => M (0 + k)) p1 p2 p3) (fun E =>
    if E = "java/lang/IllegalArgumentException" then some (1, M)
    else if E = "java/util/NoSuchElementException" then some (2, M)
    else if E = "java/lang/UnsupportedOperationException" then some (3, M)
    else if E = "java/lang/IllegalStateException" then some (4, M)
    else none) fun r1 =>
  rd_k (rd_lU (rd_pm 117 0 M r1.2) 139 0 r1.1.toInt64) fun M2 =>
  some (0, M2)
set_option maxRecDepth 100000 in
set_option maxHeartbeats 4000000 in
theorem c_W_remove {l : Launch} (hls : l.stackTraces = false) {D : va_G} {Ka : Nat → ClassId} {ad : Nat → Nat} {M : rd_M} (p1 : Int32) (p2 : Int32) (p3 : Int32)  {o : Int32 × rd_M} (hf : f_W_remove M p1 p2 p3 = some o) :
    rd_MetW l y_W_remove b_W_remove 6 (some .int) [(0, 12, 15, 13), (0, 12, 19, 15), (0, 12, 23, 17), (0, 12, 27, 19)] (9, 156, 5, 30) rd_T rd_ss D rd_cl (rd_ty Ka) (lw_L Ka) ad M [.ref (ad 0), .int p1, .int p2, .int p3, .ref (ad 139)] (fun r M1 => r = some (.int o.1) ∧ o.2 = M1) (fun _ => False) := by
  refine rd_bodyW (by decide) (Nat.le_of_ble_eq_true rfl) ?_
  intro p e s m below meth c C9 hlk hret hnt hTh hW ls hl
  have hx := C9.1.1
  have hb := C9.1.2.1
  have hl : lv_has ls 6 [(0, .ref (ad 0)), (1, .int p1), (2, .int p2), (3, .int p3), (4, .ref (ad 139))] := hl
  unfold f_W_remove at hf
  refine lv_aload hx hb d_W_remove_0 (lv_at hl 4 rfl) ?_
  refine lv_iconst (v := 0) hx hb d_W_remove_2 (by decide) ?_
  refine lv_aload_n hx hb d_W_remove_3 rfl (lv_at hl 0 rfl) ?_
  refine lv_iload_n hx hb d_W_remove_4 rfl (lv_at hl 1 rfl) ?_
  refine lv_iload_n hx hb d_W_remove_5 rfl (lv_at hl 2 rfl) ?_
  refine lv_iload_n hx hb d_W_remove_6 rfl (lv_at hl 3 rfl) ?_
  obtain ⟨or1, qr1, xr1, vr1⟩ := rd_c_run hf
  refine rd_callVS (k := 0) (As := [.int p1, .int p2, .int p3]) (rest := [.int 0, .ref (ad 139)]) lw_EK rd_gd C9 hTh hW (c_K_remove hls p1 p2 p3 qr1) kc_K_remove ki_K_remove ks_K_remove l_W_33 rfl lt_K ce_K rfl ⟨Nat.le_of_ble_eq_true rfl, Nat.le_of_ble_eq_true rfl⟩ ⟨Nat.le_of_ble_eq_true rfl, Nat.le_of_ble_eq_true rfl⟩ hl.1 rfl (Nat.le_of_ble_eq_true rfl) d_W_remove_7 (fun E ce q9 H locs hex hW h1 h2 h3 => ?_) (fun rr MM H locs hp hW => ?_)
  · have hf := xr1 E hex
    by_cases e0 : E = "java/lang/IllegalArgumentException"
    · have hf := rd_t hf e0
      subst e0
      refine rd_caughtP (h := 15) h1 h2 h3 (fun hpl => by rw [hnt]; exact rd_rH (by decide) (by decide) (by decide) (rd_hit hpl C9.1.2.2.2.1 (C9.1.2.2.2.2 _ l_W_13) (hTh.2.2.2.1 _ (List.mem_of_getElem? (i := 0) rfl)).2 h3)) ?_
      refine lv_astore (lv' := [(5, .ref q9), (0, .ref (ad 0)), (1, .int p1), (2, .int p2), (3, .int p3), (4, .ref (ad 139))]) hx hb d_W_remove_15 hl (by decide) rfl (fun ls hl => ?_)
      refine lv_iconst (v := 1) hx hb d_W_remove_17 (by decide) ?_
      obtain rfl := Option.some.inj hf
      exact rd_iret C9 hlk hret hW ⟨rfl, rfl⟩ (by decide) (by decide) d_W_remove_18
    have hf := rd_f hf e0
    by_cases e1 : E = "java/util/NoSuchElementException"
    · have hf := rd_t hf e1
      subst e1
      refine rd_caughtP (h := 19) h1 h2 h3 (fun hpl => by rw [hnt]; exact rd_rM (by decide) (by decide) (by decide) (rd_miss hpl C9.1.2.2.2.1 (C9.1.2.2.2.2 _ l_W_13) (hTh.2.2.2.2 (_, _) (List.mem_of_getElem? (i := 3) rfl)) h3) (rd_rH (by decide) (by decide) (by decide) (rd_hit hpl C9.1.2.2.2.1 (C9.1.2.2.2.2 _ l_W_15) (hTh.2.2.2.1 _ (List.mem_of_getElem? (i := 8) rfl)).2 h3))) ?_
      refine lv_astore (lv' := [(5, .ref q9), (0, .ref (ad 0)), (1, .int p1), (2, .int p2), (3, .int p3), (4, .ref (ad 139))]) hx hb d_W_remove_19 hl (by decide) rfl (fun ls hl => ?_)
      refine lv_iconst (v := 2) hx hb d_W_remove_21 (by decide) ?_
      obtain rfl := Option.some.inj hf
      exact rd_iret C9 hlk hret hW ⟨rfl, rfl⟩ (by decide) (by decide) d_W_remove_22
    have hf := rd_f hf e1
    by_cases e2 : E = "java/lang/UnsupportedOperationException"
    · have hf := rd_t hf e2
      subst e2
      refine rd_caughtP (h := 23) h1 h2 h3 (fun hpl => by rw [hnt]; exact rd_rM (by decide) (by decide) (by decide) (rd_miss hpl C9.1.2.2.2.1 (C9.1.2.2.2.2 _ l_W_13) (hTh.2.2.2.2 (_, _) (List.mem_of_getElem? (i := 6) rfl)) h3) (rd_rM (by decide) (by decide) (by decide) (rd_miss hpl C9.1.2.2.2.1 (C9.1.2.2.2.2 _ l_W_15) (hTh.2.2.2.2 (_, _) (List.mem_of_getElem? (i := 7) rfl)) h3) (rd_rH (by decide) (by decide) (by decide) (rd_hit hpl C9.1.2.2.2.1 (C9.1.2.2.2.2 _ l_W_17) (hTh.2.2.2.1 _ (List.mem_of_getElem? (i := 9) rfl)).2 h3)))) ?_
      refine lv_astore (lv' := [(5, .ref q9), (0, .ref (ad 0)), (1, .int p1), (2, .int p2), (3, .int p3), (4, .ref (ad 139))]) hx hb d_W_remove_23 hl (by decide) rfl (fun ls hl => ?_)
      refine lv_iconst (v := 3) hx hb d_W_remove_25 (by decide) ?_
      obtain rfl := Option.some.inj hf
      exact rd_iret C9 hlk hret hW ⟨rfl, rfl⟩ (by decide) (by decide) d_W_remove_26
    have hf := rd_f hf e2
    by_cases e3 : E = "java/lang/IllegalStateException"
    · have hf := rd_t hf e3
      subst e3
      refine rd_caughtP (h := 27) h1 h2 h3 (fun hpl => by rw [hnt]; exact rd_rM (by decide) (by decide) (by decide) (rd_miss hpl C9.1.2.2.2.1 (C9.1.2.2.2.2 _ l_W_13) (hTh.2.2.2.2 (_, _) (List.mem_of_getElem? (i := 9) rfl)) h3) (rd_rM (by decide) (by decide) (by decide) (rd_miss hpl C9.1.2.2.2.1 (C9.1.2.2.2.2 _ l_W_15) (hTh.2.2.2.2 (_, _) (List.mem_of_getElem? (i := 10) rfl)) h3) (rd_rM (by decide) (by decide) (by decide) (rd_miss hpl C9.1.2.2.2.1 (C9.1.2.2.2.2 _ l_W_17) (hTh.2.2.2.2 (_, _) (List.mem_of_getElem? (i := 11) rfl)) h3) (rd_rH (by decide) (by decide) (by decide) (rd_hit hpl C9.1.2.2.2.1 (C9.1.2.2.2.2 _ l_W_19) (hTh.2.2.2.1 _ (List.mem_of_getElem? (i := 7) rfl)).2 h3))))) ?_
      refine lv_astore (lv' := [(5, .ref q9), (0, .ref (ad 0)), (1, .int p1), (2, .int p2), (3, .int p3), (4, .ref (ad 139))]) hx hb d_W_remove_27 hl (by decide) rfl (fun ls hl => ?_)
      refine lv_iconst (v := 4) hx hb d_W_remove_29 (by decide) ?_
      obtain rfl := Option.some.inj hf
      exact rd_iret C9 hlk hret hW ⟨rfl, rfl⟩ (by decide) (by decide) d_W_remove_30
    have hf := rd_f hf e3
    exact (rd_nf hf).elim
  obtain ⟨r1, er1, rfl, rfl⟩ := hp
  have hf := vr1 _ er1
  have hW : rd_W D rd_cl (lw_L Ka) ad (rd_A (lw_L Ka) ad s.heap.size) s.heap (rd_pm 117 0 M r1.2) H locs := hW
  refine lv_i2l hx hb d_W_remove_10 rfl ?_
  refine as_out C9 hW (i := 0) (by decide) (show rd_in 0 1 by decide) d_W_remove_11 (fun H locs hW => ?_)
  obtain ⟨M2, hM2, hf⟩ := rd_k_el hf
  rw [← hM2] at hW
  refine lv_goto (tgt := 31) hx hb d_W_remove_12 (by decide) ?_
  refine lv_iconst (v := 0) hx hb d_W_remove_31 (by decide) ?_
  obtain rfl := Option.some.inj hf
  exact rd_iret C9 hlk hret hW ⟨rfl, rfl⟩ (by decide) (by decide) d_W_remove_32
def f_W_create (M : rd_M) (p1 : Int32) (p2 : Int32) (p3 : Int32) (p4 : Int32) (p5 : Int32) : Option (Int32 × rd_M) :=
  rd_c (f_K_create (fun k => M (0 + k)) p1 p2 p3 p4 p5) (fun E =>
    if E = "java/lang/IllegalArgumentException" then some (1, M)
    else if E = "java/util/NoSuchElementException" then some (2, M)
    else if E = "java/lang/UnsupportedOperationException" then some (3, M)
    else if E = "java/lang/IllegalStateException" then some (4, M)
    else none) fun r1 =>
  rd_k (rd_lU (rd_pm 117 0 M r1.2) 139 0 r1.1.toInt64) fun M2 =>
  some (0, M2)
set_option maxRecDepth 100000 in
set_option maxHeartbeats 4000000 in
theorem c_W_create {l : Launch} (hls : l.stackTraces = false) {D : va_G} {Ka : Nat → ClassId} {ad : Nat → Nat} {M : rd_M} (p1 : Int32) (p2 : Int32) (p3 : Int32) (p4 : Int32) (p5 : Int32)  {o : Int32 × rd_M} (hf : f_W_create M p1 p2 p3 p4 p5 = some o) :
    rd_MetW l y_W_create b_W_create 8 (some .int) [(0, 16, 19, 13), (0, 16, 23, 15), (0, 16, 27, 17), (0, 16, 31, 19)] (9, 166, 7, 42) rd_T rd_ss D rd_cl (rd_ty Ka) (lw_L Ka) ad M [.ref (ad 0), .int p1, .int p2, .int p3, .int p4, .int p5, .ref (ad 139)] (fun r M1 => r = some (.int o.1) ∧ o.2 = M1) (fun _ => False) := by
  refine rd_bodyW (by decide) (Nat.le_of_ble_eq_true rfl) ?_
  intro p e s m below meth c C9 hlk hret hnt hTh hW ls hl
  have hx := C9.1.1
  have hb := C9.1.2.1
  have hl : lv_has ls 8 [(0, .ref (ad 0)), (1, .int p1), (2, .int p2), (3, .int p3), (4, .int p4), (5, .int p5), (6, .ref (ad 139))] := hl
  unfold f_W_create at hf
  refine lv_aload hx hb d_W_create_0 (lv_at hl 6 rfl) ?_
  refine lv_iconst (v := 0) hx hb d_W_create_2 (by decide) ?_
  refine lv_aload_n hx hb d_W_create_3 rfl (lv_at hl 0 rfl) ?_
  refine lv_iload_n hx hb d_W_create_4 rfl (lv_at hl 1 rfl) ?_
  refine lv_iload_n hx hb d_W_create_5 rfl (lv_at hl 2 rfl) ?_
  refine lv_iload_n hx hb d_W_create_6 rfl (lv_at hl 3 rfl) ?_
  refine lv_iload hx hb d_W_create_7 (lv_at hl 4 rfl) ?_
  refine lv_iload hx hb d_W_create_9 (lv_at hl 5 rfl) ?_
  obtain ⟨or1, qr1, xr1, vr1⟩ := rd_c_run hf
  refine rd_callVS (k := 0) (As := [.int p1, .int p2, .int p3, .int p4, .int p5]) (rest := [.int 0, .ref (ad 139)]) lw_EK rd_gd C9 hTh hW (c_K_create hls p1 p2 p3 p4 p5 qr1) kc_K_create ki_K_create ks_K_create l_W_36 rfl lt_K ce_K rfl ⟨Nat.le_of_ble_eq_true rfl, Nat.le_of_ble_eq_true rfl⟩ ⟨Nat.le_of_ble_eq_true rfl, Nat.le_of_ble_eq_true rfl⟩ hl.1 rfl (Nat.le_of_ble_eq_true rfl) d_W_create_11 (fun E ce q9 H locs hex hW h1 h2 h3 => ?_) (fun rr MM H locs hp hW => ?_)
  · have hf := xr1 E hex
    by_cases e0 : E = "java/lang/IllegalArgumentException"
    · have hf := rd_t hf e0
      subst e0
      refine rd_caughtP (h := 19) h1 h2 h3 (fun hpl => by rw [hnt]; exact rd_rH (by decide) (by decide) (by decide) (rd_hit hpl C9.1.2.2.2.1 (C9.1.2.2.2.2 _ l_W_13) (hTh.2.2.2.1 _ (List.mem_of_getElem? (i := 0) rfl)).2 h3)) ?_
      refine lv_astore (lv' := [(7, .ref q9), (0, .ref (ad 0)), (1, .int p1), (2, .int p2), (3, .int p3), (4, .int p4), (5, .int p5), (6, .ref (ad 139))]) hx hb d_W_create_19 hl (by decide) rfl (fun ls hl => ?_)
      refine lv_iconst (v := 1) hx hb d_W_create_21 (by decide) ?_
      obtain rfl := Option.some.inj hf
      exact rd_iret C9 hlk hret hW ⟨rfl, rfl⟩ (by decide) (by decide) d_W_create_22
    have hf := rd_f hf e0
    by_cases e1 : E = "java/util/NoSuchElementException"
    · have hf := rd_t hf e1
      subst e1
      refine rd_caughtP (h := 23) h1 h2 h3 (fun hpl => by rw [hnt]; exact rd_rM (by decide) (by decide) (by decide) (rd_miss hpl C9.1.2.2.2.1 (C9.1.2.2.2.2 _ l_W_13) (hTh.2.2.2.2 (_, _) (List.mem_of_getElem? (i := 3) rfl)) h3) (rd_rH (by decide) (by decide) (by decide) (rd_hit hpl C9.1.2.2.2.1 (C9.1.2.2.2.2 _ l_W_15) (hTh.2.2.2.1 _ (List.mem_of_getElem? (i := 8) rfl)).2 h3))) ?_
      refine lv_astore (lv' := [(7, .ref q9), (0, .ref (ad 0)), (1, .int p1), (2, .int p2), (3, .int p3), (4, .int p4), (5, .int p5), (6, .ref (ad 139))]) hx hb d_W_create_23 hl (by decide) rfl (fun ls hl => ?_)
      refine lv_iconst (v := 2) hx hb d_W_create_25 (by decide) ?_
      obtain rfl := Option.some.inj hf
      exact rd_iret C9 hlk hret hW ⟨rfl, rfl⟩ (by decide) (by decide) d_W_create_26
    have hf := rd_f hf e1
    by_cases e2 : E = "java/lang/UnsupportedOperationException"
    · have hf := rd_t hf e2
      subst e2
      refine rd_caughtP (h := 27) h1 h2 h3 (fun hpl => by rw [hnt]; exact rd_rM (by decide) (by decide) (by decide) (rd_miss hpl C9.1.2.2.2.1 (C9.1.2.2.2.2 _ l_W_13) (hTh.2.2.2.2 (_, _) (List.mem_of_getElem? (i := 6) rfl)) h3) (rd_rM (by decide) (by decide) (by decide) (rd_miss hpl C9.1.2.2.2.1 (C9.1.2.2.2.2 _ l_W_15) (hTh.2.2.2.2 (_, _) (List.mem_of_getElem? (i := 7) rfl)) h3) (rd_rH (by decide) (by decide) (by decide) (rd_hit hpl C9.1.2.2.2.1 (C9.1.2.2.2.2 _ l_W_17) (hTh.2.2.2.1 _ (List.mem_of_getElem? (i := 9) rfl)).2 h3)))) ?_
      refine lv_astore (lv' := [(7, .ref q9), (0, .ref (ad 0)), (1, .int p1), (2, .int p2), (3, .int p3), (4, .int p4), (5, .int p5), (6, .ref (ad 139))]) hx hb d_W_create_27 hl (by decide) rfl (fun ls hl => ?_)
      refine lv_iconst (v := 3) hx hb d_W_create_29 (by decide) ?_
      obtain rfl := Option.some.inj hf
      exact rd_iret C9 hlk hret hW ⟨rfl, rfl⟩ (by decide) (by decide) d_W_create_30
    have hf := rd_f hf e2
    by_cases e3 : E = "java/lang/IllegalStateException"
    · have hf := rd_t hf e3
      subst e3
      refine rd_caughtP (h := 31) h1 h2 h3 (fun hpl => by rw [hnt]; exact rd_rM (by decide) (by decide) (by decide) (rd_miss hpl C9.1.2.2.2.1 (C9.1.2.2.2.2 _ l_W_13) (hTh.2.2.2.2 (_, _) (List.mem_of_getElem? (i := 9) rfl)) h3) (rd_rM (by decide) (by decide) (by decide) (rd_miss hpl C9.1.2.2.2.1 (C9.1.2.2.2.2 _ l_W_15) (hTh.2.2.2.2 (_, _) (List.mem_of_getElem? (i := 10) rfl)) h3) (rd_rM (by decide) (by decide) (by decide) (rd_miss hpl C9.1.2.2.2.1 (C9.1.2.2.2.2 _ l_W_17) (hTh.2.2.2.2 (_, _) (List.mem_of_getElem? (i := 11) rfl)) h3) (rd_rH (by decide) (by decide) (by decide) (rd_hit hpl C9.1.2.2.2.1 (C9.1.2.2.2.2 _ l_W_19) (hTh.2.2.2.1 _ (List.mem_of_getElem? (i := 7) rfl)).2 h3))))) ?_
      refine lv_astore (lv' := [(7, .ref q9), (0, .ref (ad 0)), (1, .int p1), (2, .int p2), (3, .int p3), (4, .int p4), (5, .int p5), (6, .ref (ad 139))]) hx hb d_W_create_31 hl (by decide) rfl (fun ls hl => ?_)
      refine lv_iconst (v := 4) hx hb d_W_create_33 (by decide) ?_
      obtain rfl := Option.some.inj hf
      exact rd_iret C9 hlk hret hW ⟨rfl, rfl⟩ (by decide) (by decide) d_W_create_34
    have hf := rd_f hf e3
    exact (rd_nf hf).elim
  obtain ⟨r1, er1, rfl, rfl⟩ := hp
  have hf := vr1 _ er1
  have hW : rd_W D rd_cl (lw_L Ka) ad (rd_A (lw_L Ka) ad s.heap.size) s.heap (rd_pm 117 0 M r1.2) H locs := hW
  refine lv_i2l hx hb d_W_create_14 rfl ?_
  refine as_out C9 hW (i := 0) (by decide) (show rd_in 0 1 by decide) d_W_create_15 (fun H locs hW => ?_)
  obtain ⟨M2, hM2, hf⟩ := rd_k_el hf
  rw [← hM2] at hW
  refine lv_goto (tgt := 35) hx hb d_W_create_16 (by decide) ?_
  refine lv_iconst (v := 0) hx hb d_W_create_35 (by decide) ?_
  obtain rfl := Option.some.inj hf
  exact rd_iret C9 hlk hret hW ⟨rfl, rfl⟩ (by decide) (by decide) d_W_create_36
def f_W_change (M : rd_M) (p1 : Int32) (p2 : Int32) (p3 : Int32) (p4 : Int32) (p5 : Int32) : Option (Int32 × rd_M) :=
  rd_c (f_K_change (fun k => M (0 + k)) p1 p2 p3 p4 p5) (fun E =>
    if E = "java/lang/IllegalArgumentException" then some (1, M)
    else if E = "java/util/NoSuchElementException" then some (2, M)
    else if E = "java/lang/UnsupportedOperationException" then some (3, M)
    else if E = "java/lang/IllegalStateException" then some (4, M)
    else none) fun r1 =>
  rd_k (rd_lU (rd_pm 117 0 M r1.2) 139 0 r1.1.toInt64) fun M2 =>
  some (0, M2)
set_option maxRecDepth 100000 in
set_option maxHeartbeats 4000000 in
theorem c_W_change {l : Launch} (hls : l.stackTraces = false) {D : va_G} {Ka : Nat → ClassId} {ad : Nat → Nat} {M : rd_M} (p1 : Int32) (p2 : Int32) (p3 : Int32) (p4 : Int32) (p5 : Int32)  {o : Int32 × rd_M} (hf : f_W_change M p1 p2 p3 p4 p5 = some o) :
    rd_MetW l y_W_change b_W_change 8 (some .int) [(0, 16, 19, 13), (0, 16, 23, 15), (0, 16, 27, 17), (0, 16, 31, 19)] (9, 159, 10, 60) rd_T rd_ss D rd_cl (rd_ty Ka) (lw_L Ka) ad M [.ref (ad 0), .int p1, .int p2, .int p3, .int p4, .int p5, .ref (ad 139)] (fun r M1 => r = some (.int o.1) ∧ o.2 = M1) (fun _ => False) := by
  refine rd_bodyW (by decide) (Nat.le_of_ble_eq_true rfl) ?_
  intro p e s m below meth c C9 hlk hret hnt hTh hW ls hl
  have hx := C9.1.1
  have hb := C9.1.2.1
  have hl : lv_has ls 8 [(0, .ref (ad 0)), (1, .int p1), (2, .int p2), (3, .int p3), (4, .int p4), (5, .int p5), (6, .ref (ad 139))] := hl
  unfold f_W_change at hf
  refine lv_aload hx hb d_W_change_0 (lv_at hl 6 rfl) ?_
  refine lv_iconst (v := 0) hx hb d_W_change_2 (by decide) ?_
  refine lv_aload_n hx hb d_W_change_3 rfl (lv_at hl 0 rfl) ?_
  refine lv_iload_n hx hb d_W_change_4 rfl (lv_at hl 1 rfl) ?_
  refine lv_iload_n hx hb d_W_change_5 rfl (lv_at hl 2 rfl) ?_
  refine lv_iload_n hx hb d_W_change_6 rfl (lv_at hl 3 rfl) ?_
  refine lv_iload hx hb d_W_change_7 (lv_at hl 4 rfl) ?_
  refine lv_iload hx hb d_W_change_9 (lv_at hl 5 rfl) ?_
  obtain ⟨or1, qr1, xr1, vr1⟩ := rd_c_run hf
  refine rd_callVS (k := 0) (As := [.int p1, .int p2, .int p3, .int p4, .int p5]) (rest := [.int 0, .ref (ad 139)]) lw_EK rd_gd C9 hTh hW (c_K_change hls p1 p2 p3 p4 p5 qr1) kc_K_change ki_K_change ks_K_change l_W_40 rfl lt_K ce_K rfl ⟨Nat.le_of_ble_eq_true rfl, Nat.le_of_ble_eq_true rfl⟩ ⟨Nat.le_of_ble_eq_true rfl, Nat.le_of_ble_eq_true rfl⟩ hl.1 rfl (Nat.le_of_ble_eq_true rfl) d_W_change_11 (fun E ce q9 H locs hex hW h1 h2 h3 => ?_) (fun rr MM H locs hp hW => ?_)
  · have hf := xr1 E hex
    by_cases e0 : E = "java/lang/IllegalArgumentException"
    · have hf := rd_t hf e0
      subst e0
      refine rd_caughtP (h := 19) h1 h2 h3 (fun hpl => by rw [hnt]; exact rd_rH (by decide) (by decide) (by decide) (rd_hit hpl C9.1.2.2.2.1 (C9.1.2.2.2.2 _ l_W_13) (hTh.2.2.2.1 _ (List.mem_of_getElem? (i := 0) rfl)).2 h3)) ?_
      refine lv_astore (lv' := [(7, .ref q9), (0, .ref (ad 0)), (1, .int p1), (2, .int p2), (3, .int p3), (4, .int p4), (5, .int p5), (6, .ref (ad 139))]) hx hb d_W_change_19 hl (by decide) rfl (fun ls hl => ?_)
      refine lv_iconst (v := 1) hx hb d_W_change_21 (by decide) ?_
      obtain rfl := Option.some.inj hf
      exact rd_iret C9 hlk hret hW ⟨rfl, rfl⟩ (by decide) (by decide) d_W_change_22
    have hf := rd_f hf e0
    by_cases e1 : E = "java/util/NoSuchElementException"
    · have hf := rd_t hf e1
      subst e1
      refine rd_caughtP (h := 23) h1 h2 h3 (fun hpl => by rw [hnt]; exact rd_rM (by decide) (by decide) (by decide) (rd_miss hpl C9.1.2.2.2.1 (C9.1.2.2.2.2 _ l_W_13) (hTh.2.2.2.2 (_, _) (List.mem_of_getElem? (i := 3) rfl)) h3) (rd_rH (by decide) (by decide) (by decide) (rd_hit hpl C9.1.2.2.2.1 (C9.1.2.2.2.2 _ l_W_15) (hTh.2.2.2.1 _ (List.mem_of_getElem? (i := 8) rfl)).2 h3))) ?_
      refine lv_astore (lv' := [(7, .ref q9), (0, .ref (ad 0)), (1, .int p1), (2, .int p2), (3, .int p3), (4, .int p4), (5, .int p5), (6, .ref (ad 139))]) hx hb d_W_change_23 hl (by decide) rfl (fun ls hl => ?_)
      refine lv_iconst (v := 2) hx hb d_W_change_25 (by decide) ?_
      obtain rfl := Option.some.inj hf
      exact rd_iret C9 hlk hret hW ⟨rfl, rfl⟩ (by decide) (by decide) d_W_change_26
    have hf := rd_f hf e1
    by_cases e2 : E = "java/lang/UnsupportedOperationException"
    · have hf := rd_t hf e2
      subst e2
      refine rd_caughtP (h := 27) h1 h2 h3 (fun hpl => by rw [hnt]; exact rd_rM (by decide) (by decide) (by decide) (rd_miss hpl C9.1.2.2.2.1 (C9.1.2.2.2.2 _ l_W_13) (hTh.2.2.2.2 (_, _) (List.mem_of_getElem? (i := 6) rfl)) h3) (rd_rM (by decide) (by decide) (by decide) (rd_miss hpl C9.1.2.2.2.1 (C9.1.2.2.2.2 _ l_W_15) (hTh.2.2.2.2 (_, _) (List.mem_of_getElem? (i := 7) rfl)) h3) (rd_rH (by decide) (by decide) (by decide) (rd_hit hpl C9.1.2.2.2.1 (C9.1.2.2.2.2 _ l_W_17) (hTh.2.2.2.1 _ (List.mem_of_getElem? (i := 9) rfl)).2 h3)))) ?_
      refine lv_astore (lv' := [(7, .ref q9), (0, .ref (ad 0)), (1, .int p1), (2, .int p2), (3, .int p3), (4, .int p4), (5, .int p5), (6, .ref (ad 139))]) hx hb d_W_change_27 hl (by decide) rfl (fun ls hl => ?_)
      refine lv_iconst (v := 3) hx hb d_W_change_29 (by decide) ?_
      obtain rfl := Option.some.inj hf
      exact rd_iret C9 hlk hret hW ⟨rfl, rfl⟩ (by decide) (by decide) d_W_change_30
    have hf := rd_f hf e2
    by_cases e3 : E = "java/lang/IllegalStateException"
    · have hf := rd_t hf e3
      subst e3
      refine rd_caughtP (h := 31) h1 h2 h3 (fun hpl => by rw [hnt]; exact rd_rM (by decide) (by decide) (by decide) (rd_miss hpl C9.1.2.2.2.1 (C9.1.2.2.2.2 _ l_W_13) (hTh.2.2.2.2 (_, _) (List.mem_of_getElem? (i := 9) rfl)) h3) (rd_rM (by decide) (by decide) (by decide) (rd_miss hpl C9.1.2.2.2.1 (C9.1.2.2.2.2 _ l_W_15) (hTh.2.2.2.2 (_, _) (List.mem_of_getElem? (i := 10) rfl)) h3) (rd_rM (by decide) (by decide) (by decide) (rd_miss hpl C9.1.2.2.2.1 (C9.1.2.2.2.2 _ l_W_17) (hTh.2.2.2.2 (_, _) (List.mem_of_getElem? (i := 11) rfl)) h3) (rd_rH (by decide) (by decide) (by decide) (rd_hit hpl C9.1.2.2.2.1 (C9.1.2.2.2.2 _ l_W_19) (hTh.2.2.2.1 _ (List.mem_of_getElem? (i := 7) rfl)).2 h3))))) ?_
      refine lv_astore (lv' := [(7, .ref q9), (0, .ref (ad 0)), (1, .int p1), (2, .int p2), (3, .int p3), (4, .int p4), (5, .int p5), (6, .ref (ad 139))]) hx hb d_W_change_31 hl (by decide) rfl (fun ls hl => ?_)
      refine lv_iconst (v := 4) hx hb d_W_change_33 (by decide) ?_
      obtain rfl := Option.some.inj hf
      exact rd_iret C9 hlk hret hW ⟨rfl, rfl⟩ (by decide) (by decide) d_W_change_34
    have hf := rd_f hf e3
    exact (rd_nf hf).elim
  obtain ⟨r1, er1, rfl, rfl⟩ := hp
  have hf := vr1 _ er1
  have hW : rd_W D rd_cl (lw_L Ka) ad (rd_A (lw_L Ka) ad s.heap.size) s.heap (rd_pm 117 0 M r1.2) H locs := hW
  refine lv_i2l hx hb d_W_change_14 rfl ?_
  refine as_out C9 hW (i := 0) (by decide) (show rd_in 0 1 by decide) d_W_change_15 (fun H locs hW => ?_)
  obtain ⟨M2, hM2, hf⟩ := rd_k_el hf
  rw [← hM2] at hW
  refine lv_goto (tgt := 35) hx hb d_W_change_16 (by decide) ?_
  refine lv_iconst (v := 0) hx hb d_W_change_35 (by decide) ?_
  obtain rfl := Option.some.inj hf
  exact rd_iret C9 hlk hret hW ⟨rfl, rfl⟩ (by decide) (by decide) d_W_change_36
def f_W_lock (M : rd_M) (p1 : Int32) (p2 : Int32) (p3 : Int32) : Option (Int32 × rd_M) :=
  rd_c (f_K_lock (fun k => M (0 + k)) p1 p2 p3) (fun E =>
    if E = "java/lang/IllegalArgumentException" then some (1, M)
    else if E = "java/util/NoSuchElementException" then some (2, M)
    else if E = "java/lang/UnsupportedOperationException" then some (3, M)
    else if E = "java/lang/IllegalStateException" then some (4, M)
    else none) fun r1 =>
  rd_k (rd_lU (rd_pm 117 0 M r1.2) 139 0 r1.1.toInt64) fun M2 =>
  some (0, M2)
set_option maxRecDepth 100000 in
set_option maxHeartbeats 4000000 in
theorem c_W_lock {l : Launch} (hls : l.stackTraces = false) {D : va_G} {Ka : Nat → ClassId} {ad : Nat → Nat} {M : rd_M} (p1 : Int32) (p2 : Int32) (p3 : Int32)  {o : Int32 × rd_M} (hf : f_W_lock M p1 p2 p3 = some o) :
    rd_MetW l y_W_lock b_W_lock 6 (some .int) [(0, 12, 15, 13), (0, 12, 19, 15), (0, 12, 23, 17), (0, 12, 27, 19)] (9, 157, 6, 36) rd_T rd_ss D rd_cl (rd_ty Ka) (lw_L Ka) ad M [.ref (ad 0), .int p1, .int p2, .int p3, .ref (ad 139)] (fun r M1 => r = some (.int o.1) ∧ o.2 = M1) (fun _ => False) := by
  refine rd_bodyW (by decide) (Nat.le_of_ble_eq_true rfl) ?_
  intro p e s m below meth c C9 hlk hret hnt hTh hW ls hl
  have hx := C9.1.1
  have hb := C9.1.2.1
  have hl : lv_has ls 6 [(0, .ref (ad 0)), (1, .int p1), (2, .int p2), (3, .int p3), (4, .ref (ad 139))] := hl
  unfold f_W_lock at hf
  refine lv_aload hx hb d_W_lock_0 (lv_at hl 4 rfl) ?_
  refine lv_iconst (v := 0) hx hb d_W_lock_2 (by decide) ?_
  refine lv_aload_n hx hb d_W_lock_3 rfl (lv_at hl 0 rfl) ?_
  refine lv_iload_n hx hb d_W_lock_4 rfl (lv_at hl 1 rfl) ?_
  refine lv_iload_n hx hb d_W_lock_5 rfl (lv_at hl 2 rfl) ?_
  refine lv_iload_n hx hb d_W_lock_6 rfl (lv_at hl 3 rfl) ?_
  obtain ⟨or1, qr1, xr1, vr1⟩ := rd_c_run hf
  refine rd_callVS (k := 0) (As := [.int p1, .int p2, .int p3]) (rest := [.int 0, .ref (ad 139)]) lw_EK rd_gd C9 hTh hW (c_K_lock hls p1 p2 p3 qr1) kc_K_lock ki_K_lock ks_K_lock l_W_44 rfl lt_K ce_K rfl ⟨Nat.le_of_ble_eq_true rfl, Nat.le_of_ble_eq_true rfl⟩ ⟨Nat.le_of_ble_eq_true rfl, Nat.le_of_ble_eq_true rfl⟩ hl.1 rfl (Nat.le_of_ble_eq_true rfl) d_W_lock_7 (fun E ce q9 H locs hex hW h1 h2 h3 => ?_) (fun rr MM H locs hp hW => ?_)
  · have hf := xr1 E hex
    by_cases e0 : E = "java/lang/IllegalArgumentException"
    · have hf := rd_t hf e0
      subst e0
      refine rd_caughtP (h := 15) h1 h2 h3 (fun hpl => by rw [hnt]; exact rd_rH (by decide) (by decide) (by decide) (rd_hit hpl C9.1.2.2.2.1 (C9.1.2.2.2.2 _ l_W_13) (hTh.2.2.2.1 _ (List.mem_of_getElem? (i := 0) rfl)).2 h3)) ?_
      refine lv_astore (lv' := [(5, .ref q9), (0, .ref (ad 0)), (1, .int p1), (2, .int p2), (3, .int p3), (4, .ref (ad 139))]) hx hb d_W_lock_15 hl (by decide) rfl (fun ls hl => ?_)
      refine lv_iconst (v := 1) hx hb d_W_lock_17 (by decide) ?_
      obtain rfl := Option.some.inj hf
      exact rd_iret C9 hlk hret hW ⟨rfl, rfl⟩ (by decide) (by decide) d_W_lock_18
    have hf := rd_f hf e0
    by_cases e1 : E = "java/util/NoSuchElementException"
    · have hf := rd_t hf e1
      subst e1
      refine rd_caughtP (h := 19) h1 h2 h3 (fun hpl => by rw [hnt]; exact rd_rM (by decide) (by decide) (by decide) (rd_miss hpl C9.1.2.2.2.1 (C9.1.2.2.2.2 _ l_W_13) (hTh.2.2.2.2 (_, _) (List.mem_of_getElem? (i := 3) rfl)) h3) (rd_rH (by decide) (by decide) (by decide) (rd_hit hpl C9.1.2.2.2.1 (C9.1.2.2.2.2 _ l_W_15) (hTh.2.2.2.1 _ (List.mem_of_getElem? (i := 8) rfl)).2 h3))) ?_
      refine lv_astore (lv' := [(5, .ref q9), (0, .ref (ad 0)), (1, .int p1), (2, .int p2), (3, .int p3), (4, .ref (ad 139))]) hx hb d_W_lock_19 hl (by decide) rfl (fun ls hl => ?_)
      refine lv_iconst (v := 2) hx hb d_W_lock_21 (by decide) ?_
      obtain rfl := Option.some.inj hf
      exact rd_iret C9 hlk hret hW ⟨rfl, rfl⟩ (by decide) (by decide) d_W_lock_22
    have hf := rd_f hf e1
    by_cases e2 : E = "java/lang/UnsupportedOperationException"
    · have hf := rd_t hf e2
      subst e2
      refine rd_caughtP (h := 23) h1 h2 h3 (fun hpl => by rw [hnt]; exact rd_rM (by decide) (by decide) (by decide) (rd_miss hpl C9.1.2.2.2.1 (C9.1.2.2.2.2 _ l_W_13) (hTh.2.2.2.2 (_, _) (List.mem_of_getElem? (i := 6) rfl)) h3) (rd_rM (by decide) (by decide) (by decide) (rd_miss hpl C9.1.2.2.2.1 (C9.1.2.2.2.2 _ l_W_15) (hTh.2.2.2.2 (_, _) (List.mem_of_getElem? (i := 7) rfl)) h3) (rd_rH (by decide) (by decide) (by decide) (rd_hit hpl C9.1.2.2.2.1 (C9.1.2.2.2.2 _ l_W_17) (hTh.2.2.2.1 _ (List.mem_of_getElem? (i := 9) rfl)).2 h3)))) ?_
      refine lv_astore (lv' := [(5, .ref q9), (0, .ref (ad 0)), (1, .int p1), (2, .int p2), (3, .int p3), (4, .ref (ad 139))]) hx hb d_W_lock_23 hl (by decide) rfl (fun ls hl => ?_)
      refine lv_iconst (v := 3) hx hb d_W_lock_25 (by decide) ?_
      obtain rfl := Option.some.inj hf
      exact rd_iret C9 hlk hret hW ⟨rfl, rfl⟩ (by decide) (by decide) d_W_lock_26
    have hf := rd_f hf e2
    by_cases e3 : E = "java/lang/IllegalStateException"
    · have hf := rd_t hf e3
      subst e3
      refine rd_caughtP (h := 27) h1 h2 h3 (fun hpl => by rw [hnt]; exact rd_rM (by decide) (by decide) (by decide) (rd_miss hpl C9.1.2.2.2.1 (C9.1.2.2.2.2 _ l_W_13) (hTh.2.2.2.2 (_, _) (List.mem_of_getElem? (i := 9) rfl)) h3) (rd_rM (by decide) (by decide) (by decide) (rd_miss hpl C9.1.2.2.2.1 (C9.1.2.2.2.2 _ l_W_15) (hTh.2.2.2.2 (_, _) (List.mem_of_getElem? (i := 10) rfl)) h3) (rd_rM (by decide) (by decide) (by decide) (rd_miss hpl C9.1.2.2.2.1 (C9.1.2.2.2.2 _ l_W_17) (hTh.2.2.2.2 (_, _) (List.mem_of_getElem? (i := 11) rfl)) h3) (rd_rH (by decide) (by decide) (by decide) (rd_hit hpl C9.1.2.2.2.1 (C9.1.2.2.2.2 _ l_W_19) (hTh.2.2.2.1 _ (List.mem_of_getElem? (i := 7) rfl)).2 h3))))) ?_
      refine lv_astore (lv' := [(5, .ref q9), (0, .ref (ad 0)), (1, .int p1), (2, .int p2), (3, .int p3), (4, .ref (ad 139))]) hx hb d_W_lock_27 hl (by decide) rfl (fun ls hl => ?_)
      refine lv_iconst (v := 4) hx hb d_W_lock_29 (by decide) ?_
      obtain rfl := Option.some.inj hf
      exact rd_iret C9 hlk hret hW ⟨rfl, rfl⟩ (by decide) (by decide) d_W_lock_30
    have hf := rd_f hf e3
    exact (rd_nf hf).elim
  obtain ⟨r1, er1, rfl, rfl⟩ := hp
  have hf := vr1 _ er1
  have hW : rd_W D rd_cl (lw_L Ka) ad (rd_A (lw_L Ka) ad s.heap.size) s.heap (rd_pm 117 0 M r1.2) H locs := hW
  refine lv_i2l hx hb d_W_lock_10 rfl ?_
  refine as_out C9 hW (i := 0) (by decide) (show rd_in 0 1 by decide) d_W_lock_11 (fun H locs hW => ?_)
  obtain ⟨M2, hM2, hf⟩ := rd_k_el hf
  rw [← hM2] at hW
  refine lv_goto (tgt := 31) hx hb d_W_lock_12 (by decide) ?_
  refine lv_iconst (v := 0) hx hb d_W_lock_31 (by decide) ?_
  obtain rfl := Option.some.inj hf
  exact rd_iret C9 hlk hret hW ⟨rfl, rfl⟩ (by decide) (by decide) d_W_lock_32
def f_W_renew (M : rd_M) (p1 : Int32) (p2 : Int32) (p3 : Int32) : Option (Int32 × rd_M) :=
  rd_c (f_K_renew (fun k => M (0 + k)) p1 p2 p3) (fun E =>
    if E = "java/lang/IllegalArgumentException" then some (1, M)
    else if E = "java/util/NoSuchElementException" then some (2, M)
    else if E = "java/lang/UnsupportedOperationException" then some (3, M)
    else if E = "java/lang/IllegalStateException" then some (4, M)
    else none) fun r1 =>
  rd_k (rd_lU (rd_pm 117 0 M r1.2) 139 0 r1.1.toInt64) fun M2 =>
  some (0, M2)
set_option maxRecDepth 100000 in
set_option maxHeartbeats 4000000 in
theorem c_W_renew {l : Launch} (hls : l.stackTraces = false) {D : va_G} {Ka : Nat → ClassId} {ad : Nat → Nat} {M : rd_M} (p1 : Int32) (p2 : Int32) (p3 : Int32)  {o : Int32 × rd_M} (hf : f_W_renew M p1 p2 p3 = some o) :
    rd_MetW l y_W_renew b_W_renew 6 (some .int) [(0, 12, 15, 13), (0, 12, 19, 15), (0, 12, 23, 17), (0, 12, 27, 19)] (9, 165, 10, 60) rd_T rd_ss D rd_cl (rd_ty Ka) (lw_L Ka) ad M [.ref (ad 0), .int p1, .int p2, .int p3, .ref (ad 139)] (fun r M1 => r = some (.int o.1) ∧ o.2 = M1) (fun _ => False) := by
  refine rd_bodyW (by decide) (Nat.le_of_ble_eq_true rfl) ?_
  intro p e s m below meth c C9 hlk hret hnt hTh hW ls hl
  have hx := C9.1.1
  have hb := C9.1.2.1
  have hl : lv_has ls 6 [(0, .ref (ad 0)), (1, .int p1), (2, .int p2), (3, .int p3), (4, .ref (ad 139))] := hl
  unfold f_W_renew at hf
  refine lv_aload hx hb d_W_renew_0 (lv_at hl 4 rfl) ?_
  refine lv_iconst (v := 0) hx hb d_W_renew_2 (by decide) ?_
  refine lv_aload_n hx hb d_W_renew_3 rfl (lv_at hl 0 rfl) ?_
  refine lv_iload_n hx hb d_W_renew_4 rfl (lv_at hl 1 rfl) ?_
  refine lv_iload_n hx hb d_W_renew_5 rfl (lv_at hl 2 rfl) ?_
  refine lv_iload_n hx hb d_W_renew_6 rfl (lv_at hl 3 rfl) ?_
  obtain ⟨or1, qr1, xr1, vr1⟩ := rd_c_run hf
  refine rd_callVS (k := 0) (As := [.int p1, .int p2, .int p3]) (rest := [.int 0, .ref (ad 139)]) lw_EK rd_gd C9 hTh hW (c_K_renew hls p1 p2 p3 qr1) kc_K_renew ki_K_renew ks_K_renew l_W_47 rfl lt_K ce_K rfl ⟨Nat.le_of_ble_eq_true rfl, Nat.le_of_ble_eq_true rfl⟩ ⟨Nat.le_of_ble_eq_true rfl, Nat.le_of_ble_eq_true rfl⟩ hl.1 rfl (Nat.le_of_ble_eq_true rfl) d_W_renew_7 (fun E ce q9 H locs hex hW h1 h2 h3 => ?_) (fun rr MM H locs hp hW => ?_)
  · have hf := xr1 E hex
    by_cases e0 : E = "java/lang/IllegalArgumentException"
    · have hf := rd_t hf e0
      subst e0
      refine rd_caughtP (h := 15) h1 h2 h3 (fun hpl => by rw [hnt]; exact rd_rH (by decide) (by decide) (by decide) (rd_hit hpl C9.1.2.2.2.1 (C9.1.2.2.2.2 _ l_W_13) (hTh.2.2.2.1 _ (List.mem_of_getElem? (i := 0) rfl)).2 h3)) ?_
      refine lv_astore (lv' := [(5, .ref q9), (0, .ref (ad 0)), (1, .int p1), (2, .int p2), (3, .int p3), (4, .ref (ad 139))]) hx hb d_W_renew_15 hl (by decide) rfl (fun ls hl => ?_)
      refine lv_iconst (v := 1) hx hb d_W_renew_17 (by decide) ?_
      obtain rfl := Option.some.inj hf
      exact rd_iret C9 hlk hret hW ⟨rfl, rfl⟩ (by decide) (by decide) d_W_renew_18
    have hf := rd_f hf e0
    by_cases e1 : E = "java/util/NoSuchElementException"
    · have hf := rd_t hf e1
      subst e1
      refine rd_caughtP (h := 19) h1 h2 h3 (fun hpl => by rw [hnt]; exact rd_rM (by decide) (by decide) (by decide) (rd_miss hpl C9.1.2.2.2.1 (C9.1.2.2.2.2 _ l_W_13) (hTh.2.2.2.2 (_, _) (List.mem_of_getElem? (i := 3) rfl)) h3) (rd_rH (by decide) (by decide) (by decide) (rd_hit hpl C9.1.2.2.2.1 (C9.1.2.2.2.2 _ l_W_15) (hTh.2.2.2.1 _ (List.mem_of_getElem? (i := 8) rfl)).2 h3))) ?_
      refine lv_astore (lv' := [(5, .ref q9), (0, .ref (ad 0)), (1, .int p1), (2, .int p2), (3, .int p3), (4, .ref (ad 139))]) hx hb d_W_renew_19 hl (by decide) rfl (fun ls hl => ?_)
      refine lv_iconst (v := 2) hx hb d_W_renew_21 (by decide) ?_
      obtain rfl := Option.some.inj hf
      exact rd_iret C9 hlk hret hW ⟨rfl, rfl⟩ (by decide) (by decide) d_W_renew_22
    have hf := rd_f hf e1
    by_cases e2 : E = "java/lang/UnsupportedOperationException"
    · have hf := rd_t hf e2
      subst e2
      refine rd_caughtP (h := 23) h1 h2 h3 (fun hpl => by rw [hnt]; exact rd_rM (by decide) (by decide) (by decide) (rd_miss hpl C9.1.2.2.2.1 (C9.1.2.2.2.2 _ l_W_13) (hTh.2.2.2.2 (_, _) (List.mem_of_getElem? (i := 6) rfl)) h3) (rd_rM (by decide) (by decide) (by decide) (rd_miss hpl C9.1.2.2.2.1 (C9.1.2.2.2.2 _ l_W_15) (hTh.2.2.2.2 (_, _) (List.mem_of_getElem? (i := 7) rfl)) h3) (rd_rH (by decide) (by decide) (by decide) (rd_hit hpl C9.1.2.2.2.1 (C9.1.2.2.2.2 _ l_W_17) (hTh.2.2.2.1 _ (List.mem_of_getElem? (i := 9) rfl)).2 h3)))) ?_
      refine lv_astore (lv' := [(5, .ref q9), (0, .ref (ad 0)), (1, .int p1), (2, .int p2), (3, .int p3), (4, .ref (ad 139))]) hx hb d_W_renew_23 hl (by decide) rfl (fun ls hl => ?_)
      refine lv_iconst (v := 3) hx hb d_W_renew_25 (by decide) ?_
      obtain rfl := Option.some.inj hf
      exact rd_iret C9 hlk hret hW ⟨rfl, rfl⟩ (by decide) (by decide) d_W_renew_26
    have hf := rd_f hf e2
    by_cases e3 : E = "java/lang/IllegalStateException"
    · have hf := rd_t hf e3
      subst e3
      refine rd_caughtP (h := 27) h1 h2 h3 (fun hpl => by rw [hnt]; exact rd_rM (by decide) (by decide) (by decide) (rd_miss hpl C9.1.2.2.2.1 (C9.1.2.2.2.2 _ l_W_13) (hTh.2.2.2.2 (_, _) (List.mem_of_getElem? (i := 9) rfl)) h3) (rd_rM (by decide) (by decide) (by decide) (rd_miss hpl C9.1.2.2.2.1 (C9.1.2.2.2.2 _ l_W_15) (hTh.2.2.2.2 (_, _) (List.mem_of_getElem? (i := 10) rfl)) h3) (rd_rM (by decide) (by decide) (by decide) (rd_miss hpl C9.1.2.2.2.1 (C9.1.2.2.2.2 _ l_W_17) (hTh.2.2.2.2 (_, _) (List.mem_of_getElem? (i := 11) rfl)) h3) (rd_rH (by decide) (by decide) (by decide) (rd_hit hpl C9.1.2.2.2.1 (C9.1.2.2.2.2 _ l_W_19) (hTh.2.2.2.1 _ (List.mem_of_getElem? (i := 7) rfl)).2 h3))))) ?_
      refine lv_astore (lv' := [(5, .ref q9), (0, .ref (ad 0)), (1, .int p1), (2, .int p2), (3, .int p3), (4, .ref (ad 139))]) hx hb d_W_renew_27 hl (by decide) rfl (fun ls hl => ?_)
      refine lv_iconst (v := 4) hx hb d_W_renew_29 (by decide) ?_
      obtain rfl := Option.some.inj hf
      exact rd_iret C9 hlk hret hW ⟨rfl, rfl⟩ (by decide) (by decide) d_W_renew_30
    have hf := rd_f hf e3
    exact (rd_nf hf).elim
  obtain ⟨r1, er1, rfl, rfl⟩ := hp
  have hf := vr1 _ er1
  have hW : rd_W D rd_cl (lw_L Ka) ad (rd_A (lw_L Ka) ad s.heap.size) s.heap (rd_pm 117 0 M r1.2) H locs := hW
  refine lv_i2l hx hb d_W_renew_10 rfl ?_
  refine as_out C9 hW (i := 0) (by decide) (show rd_in 0 1 by decide) d_W_renew_11 (fun H locs hW => ?_)
  obtain ⟨M2, hM2, hf⟩ := rd_k_el hf
  rw [← hM2] at hW
  refine lv_goto (tgt := 31) hx hb d_W_renew_12 (by decide) ?_
  refine lv_iconst (v := 0) hx hb d_W_renew_31 (by decide) ?_
  obtain rfl := Option.some.inj hf
  exact rd_iret C9 hlk hret hW ⟨rfl, rfl⟩ (by decide) (by decide) d_W_renew_32
def f_W_delete (M : rd_M) (p1 : Int32) (p2 : Int32) : Option (Int32 × rd_M) :=
  rd_c (f_K_delete (fun k => M (0 + k)) p1 p2) (fun E =>
    if E = "java/lang/IllegalArgumentException" then some (1, M)
    else if E = "java/util/NoSuchElementException" then some (2, M)
    else if E = "java/lang/UnsupportedOperationException" then some (3, M)
    else if E = "java/lang/IllegalStateException" then some (4, M)
    else none) fun r1 =>
  rd_k (rd_lU (rd_pm 117 0 M r1.2) 139 0 r1.1.toInt64) fun M2 =>
  some (0, M2)
set_option maxRecDepth 100000 in
set_option maxHeartbeats 4000000 in
theorem c_W_delete {l : Launch} (hls : l.stackTraces = false) {D : va_G} {Ka : Nat → ClassId} {ad : Nat → Nat} {M : rd_M} (p1 : Int32) (p2 : Int32)  {o : Int32 × rd_M} (hf : f_W_delete M p1 p2 = some o) :
    rd_MetW l y_W_delete b_W_delete 5 (some .int) [(0, 10, 13, 13), (0, 10, 17, 15), (0, 10, 21, 17), (0, 10, 25, 19)] (9, 155, 8, 48) rd_T rd_ss D rd_cl (rd_ty Ka) (lw_L Ka) ad M [.ref (ad 0), .int p1, .int p2, .ref (ad 139)] (fun r M1 => r = some (.int o.1) ∧ o.2 = M1) (fun _ => False) := by
  refine rd_bodyW (by decide) (Nat.le_of_ble_eq_true rfl) ?_
  intro p e s m below meth c C9 hlk hret hnt hTh hW ls hl
  have hx := C9.1.1
  have hb := C9.1.2.1
  have hl : lv_has ls 5 [(0, .ref (ad 0)), (1, .int p1), (2, .int p2), (3, .ref (ad 139))] := hl
  unfold f_W_delete at hf
  refine lv_aload_n hx hb d_W_delete_0 rfl (lv_at hl 3 rfl) ?_
  refine lv_iconst (v := 0) hx hb d_W_delete_1 (by decide) ?_
  refine lv_aload_n hx hb d_W_delete_2 rfl (lv_at hl 0 rfl) ?_
  refine lv_iload_n hx hb d_W_delete_3 rfl (lv_at hl 1 rfl) ?_
  refine lv_iload_n hx hb d_W_delete_4 rfl (lv_at hl 2 rfl) ?_
  obtain ⟨or1, qr1, xr1, vr1⟩ := rd_c_run hf
  refine rd_callVS (k := 0) (As := [.int p1, .int p2]) (rest := [.int 0, .ref (ad 139)]) lw_EK rd_gd C9 hTh hW (c_K_delete hls p1 p2 qr1) kc_K_delete ki_K_delete ks_K_delete l_W_50 rfl lt_K ce_K rfl ⟨Nat.le_of_ble_eq_true rfl, Nat.le_of_ble_eq_true rfl⟩ ⟨Nat.le_of_ble_eq_true rfl, Nat.le_of_ble_eq_true rfl⟩ hl.1 rfl (Nat.le_of_ble_eq_true rfl) d_W_delete_5 (fun E ce q9 H locs hex hW h1 h2 h3 => ?_) (fun rr MM H locs hp hW => ?_)
  · have hf := xr1 E hex
    by_cases e0 : E = "java/lang/IllegalArgumentException"
    · have hf := rd_t hf e0
      subst e0
      refine rd_caughtP (h := 13) h1 h2 h3 (fun hpl => by rw [hnt]; exact rd_rH (by decide) (by decide) (by decide) (rd_hit hpl C9.1.2.2.2.1 (C9.1.2.2.2.2 _ l_W_13) (hTh.2.2.2.1 _ (List.mem_of_getElem? (i := 0) rfl)).2 h3)) ?_
      refine lv_astore (lv' := [(4, .ref q9), (0, .ref (ad 0)), (1, .int p1), (2, .int p2), (3, .ref (ad 139))]) hx hb d_W_delete_13 hl (by decide) rfl (fun ls hl => ?_)
      refine lv_iconst (v := 1) hx hb d_W_delete_15 (by decide) ?_
      obtain rfl := Option.some.inj hf
      exact rd_iret C9 hlk hret hW ⟨rfl, rfl⟩ (by decide) (by decide) d_W_delete_16
    have hf := rd_f hf e0
    by_cases e1 : E = "java/util/NoSuchElementException"
    · have hf := rd_t hf e1
      subst e1
      refine rd_caughtP (h := 17) h1 h2 h3 (fun hpl => by rw [hnt]; exact rd_rM (by decide) (by decide) (by decide) (rd_miss hpl C9.1.2.2.2.1 (C9.1.2.2.2.2 _ l_W_13) (hTh.2.2.2.2 (_, _) (List.mem_of_getElem? (i := 3) rfl)) h3) (rd_rH (by decide) (by decide) (by decide) (rd_hit hpl C9.1.2.2.2.1 (C9.1.2.2.2.2 _ l_W_15) (hTh.2.2.2.1 _ (List.mem_of_getElem? (i := 8) rfl)).2 h3))) ?_
      refine lv_astore (lv' := [(4, .ref q9), (0, .ref (ad 0)), (1, .int p1), (2, .int p2), (3, .ref (ad 139))]) hx hb d_W_delete_17 hl (by decide) rfl (fun ls hl => ?_)
      refine lv_iconst (v := 2) hx hb d_W_delete_19 (by decide) ?_
      obtain rfl := Option.some.inj hf
      exact rd_iret C9 hlk hret hW ⟨rfl, rfl⟩ (by decide) (by decide) d_W_delete_20
    have hf := rd_f hf e1
    by_cases e2 : E = "java/lang/UnsupportedOperationException"
    · have hf := rd_t hf e2
      subst e2
      refine rd_caughtP (h := 21) h1 h2 h3 (fun hpl => by rw [hnt]; exact rd_rM (by decide) (by decide) (by decide) (rd_miss hpl C9.1.2.2.2.1 (C9.1.2.2.2.2 _ l_W_13) (hTh.2.2.2.2 (_, _) (List.mem_of_getElem? (i := 6) rfl)) h3) (rd_rM (by decide) (by decide) (by decide) (rd_miss hpl C9.1.2.2.2.1 (C9.1.2.2.2.2 _ l_W_15) (hTh.2.2.2.2 (_, _) (List.mem_of_getElem? (i := 7) rfl)) h3) (rd_rH (by decide) (by decide) (by decide) (rd_hit hpl C9.1.2.2.2.1 (C9.1.2.2.2.2 _ l_W_17) (hTh.2.2.2.1 _ (List.mem_of_getElem? (i := 9) rfl)).2 h3)))) ?_
      refine lv_astore (lv' := [(4, .ref q9), (0, .ref (ad 0)), (1, .int p1), (2, .int p2), (3, .ref (ad 139))]) hx hb d_W_delete_21 hl (by decide) rfl (fun ls hl => ?_)
      refine lv_iconst (v := 3) hx hb d_W_delete_23 (by decide) ?_
      obtain rfl := Option.some.inj hf
      exact rd_iret C9 hlk hret hW ⟨rfl, rfl⟩ (by decide) (by decide) d_W_delete_24
    have hf := rd_f hf e2
    by_cases e3 : E = "java/lang/IllegalStateException"
    · have hf := rd_t hf e3
      subst e3
      refine rd_caughtP (h := 25) h1 h2 h3 (fun hpl => by rw [hnt]; exact rd_rM (by decide) (by decide) (by decide) (rd_miss hpl C9.1.2.2.2.1 (C9.1.2.2.2.2 _ l_W_13) (hTh.2.2.2.2 (_, _) (List.mem_of_getElem? (i := 9) rfl)) h3) (rd_rM (by decide) (by decide) (by decide) (rd_miss hpl C9.1.2.2.2.1 (C9.1.2.2.2.2 _ l_W_15) (hTh.2.2.2.2 (_, _) (List.mem_of_getElem? (i := 10) rfl)) h3) (rd_rM (by decide) (by decide) (by decide) (rd_miss hpl C9.1.2.2.2.1 (C9.1.2.2.2.2 _ l_W_17) (hTh.2.2.2.2 (_, _) (List.mem_of_getElem? (i := 11) rfl)) h3) (rd_rH (by decide) (by decide) (by decide) (rd_hit hpl C9.1.2.2.2.1 (C9.1.2.2.2.2 _ l_W_19) (hTh.2.2.2.1 _ (List.mem_of_getElem? (i := 7) rfl)).2 h3))))) ?_
      refine lv_astore (lv' := [(4, .ref q9), (0, .ref (ad 0)), (1, .int p1), (2, .int p2), (3, .ref (ad 139))]) hx hb d_W_delete_25 hl (by decide) rfl (fun ls hl => ?_)
      refine lv_iconst (v := 4) hx hb d_W_delete_27 (by decide) ?_
      obtain rfl := Option.some.inj hf
      exact rd_iret C9 hlk hret hW ⟨rfl, rfl⟩ (by decide) (by decide) d_W_delete_28
    have hf := rd_f hf e3
    exact (rd_nf hf).elim
  obtain ⟨r1, er1, rfl, rfl⟩ := hp
  have hf := vr1 _ er1
  have hW : rd_W D rd_cl (lw_L Ka) ad (rd_A (lw_L Ka) ad s.heap.size) s.heap (rd_pm 117 0 M r1.2) H locs := hW
  refine lv_i2l hx hb d_W_delete_8 rfl ?_
  refine as_out C9 hW (i := 0) (by decide) (show rd_in 0 1 by decide) d_W_delete_9 (fun H locs hW => ?_)
  obtain ⟨M2, hM2, hf⟩ := rd_k_el hf
  rw [← hM2] at hW
  refine lv_goto (tgt := 29) hx hb d_W_delete_10 (by decide) ?_
  refine lv_iconst (v := 0) hx hb d_W_delete_29 (by decide) ?_
  obtain rfl := Option.some.inj hf
  exact rd_iret C9 hlk hret hW ⟨rfl, rfl⟩ (by decide) (by decide) d_W_delete_30
def f_W_restore (M : rd_M) (p1 : Int32) (p2 : Int32) : Option (Int32 × rd_M) :=
  rd_c (f_K_restore (fun k => M (0 + k)) p1 p2) (fun E =>
    if E = "java/lang/IllegalArgumentException" then some (1, M)
    else if E = "java/util/NoSuchElementException" then some (2, M)
    else if E = "java/lang/UnsupportedOperationException" then some (3, M)
    else if E = "java/lang/IllegalStateException" then some (4, M)
    else none) fun r1 =>
  rd_k (rd_lU (rd_pm 117 0 M r1.2) 139 0 r1.1.toInt64) fun M2 =>
  some (0, M2)
set_option maxRecDepth 100000 in
set_option maxHeartbeats 4000000 in
theorem c_W_restore {l : Launch} (hls : l.stackTraces = false) {D : va_G} {Ka : Nat → ClassId} {ad : Nat → Nat} {M : rd_M} (p1 : Int32) (p2 : Int32)  {o : Int32 × rd_M} (hf : f_W_restore M p1 p2 = some o) :
    rd_MetW l y_W_restore b_W_restore 5 (some .int) [(0, 10, 13, 13), (0, 10, 17, 15), (0, 10, 21, 17), (0, 10, 25, 19)] (9, 161, 6, 36) rd_T rd_ss D rd_cl (rd_ty Ka) (lw_L Ka) ad M [.ref (ad 0), .int p1, .int p2, .ref (ad 139)] (fun r M1 => r = some (.int o.1) ∧ o.2 = M1) (fun _ => False) := by
  refine rd_bodyW (by decide) (Nat.le_of_ble_eq_true rfl) ?_
  intro p e s m below meth c C9 hlk hret hnt hTh hW ls hl
  have hx := C9.1.1
  have hb := C9.1.2.1
  have hl : lv_has ls 5 [(0, .ref (ad 0)), (1, .int p1), (2, .int p2), (3, .ref (ad 139))] := hl
  unfold f_W_restore at hf
  refine lv_aload_n hx hb d_W_restore_0 rfl (lv_at hl 3 rfl) ?_
  refine lv_iconst (v := 0) hx hb d_W_restore_1 (by decide) ?_
  refine lv_aload_n hx hb d_W_restore_2 rfl (lv_at hl 0 rfl) ?_
  refine lv_iload_n hx hb d_W_restore_3 rfl (lv_at hl 1 rfl) ?_
  refine lv_iload_n hx hb d_W_restore_4 rfl (lv_at hl 2 rfl) ?_
  obtain ⟨or1, qr1, xr1, vr1⟩ := rd_c_run hf
  refine rd_callVS (k := 0) (As := [.int p1, .int p2]) (rest := [.int 0, .ref (ad 139)]) lw_EK rd_gd C9 hTh hW (c_K_restore hls p1 p2 qr1) kc_K_restore ki_K_restore ks_K_restore l_W_54 rfl lt_K ce_K rfl ⟨Nat.le_of_ble_eq_true rfl, Nat.le_of_ble_eq_true rfl⟩ ⟨Nat.le_of_ble_eq_true rfl, Nat.le_of_ble_eq_true rfl⟩ hl.1 rfl (Nat.le_of_ble_eq_true rfl) d_W_restore_5 (fun E ce q9 H locs hex hW h1 h2 h3 => ?_) (fun rr MM H locs hp hW => ?_)
  · have hf := xr1 E hex
    by_cases e0 : E = "java/lang/IllegalArgumentException"
    · have hf := rd_t hf e0
      subst e0
      refine rd_caughtP (h := 13) h1 h2 h3 (fun hpl => by rw [hnt]; exact rd_rH (by decide) (by decide) (by decide) (rd_hit hpl C9.1.2.2.2.1 (C9.1.2.2.2.2 _ l_W_13) (hTh.2.2.2.1 _ (List.mem_of_getElem? (i := 0) rfl)).2 h3)) ?_
      refine lv_astore (lv' := [(4, .ref q9), (0, .ref (ad 0)), (1, .int p1), (2, .int p2), (3, .ref (ad 139))]) hx hb d_W_restore_13 hl (by decide) rfl (fun ls hl => ?_)
      refine lv_iconst (v := 1) hx hb d_W_restore_15 (by decide) ?_
      obtain rfl := Option.some.inj hf
      exact rd_iret C9 hlk hret hW ⟨rfl, rfl⟩ (by decide) (by decide) d_W_restore_16
    have hf := rd_f hf e0
    by_cases e1 : E = "java/util/NoSuchElementException"
    · have hf := rd_t hf e1
      subst e1
      refine rd_caughtP (h := 17) h1 h2 h3 (fun hpl => by rw [hnt]; exact rd_rM (by decide) (by decide) (by decide) (rd_miss hpl C9.1.2.2.2.1 (C9.1.2.2.2.2 _ l_W_13) (hTh.2.2.2.2 (_, _) (List.mem_of_getElem? (i := 3) rfl)) h3) (rd_rH (by decide) (by decide) (by decide) (rd_hit hpl C9.1.2.2.2.1 (C9.1.2.2.2.2 _ l_W_15) (hTh.2.2.2.1 _ (List.mem_of_getElem? (i := 8) rfl)).2 h3))) ?_
      refine lv_astore (lv' := [(4, .ref q9), (0, .ref (ad 0)), (1, .int p1), (2, .int p2), (3, .ref (ad 139))]) hx hb d_W_restore_17 hl (by decide) rfl (fun ls hl => ?_)
      refine lv_iconst (v := 2) hx hb d_W_restore_19 (by decide) ?_
      obtain rfl := Option.some.inj hf
      exact rd_iret C9 hlk hret hW ⟨rfl, rfl⟩ (by decide) (by decide) d_W_restore_20
    have hf := rd_f hf e1
    by_cases e2 : E = "java/lang/UnsupportedOperationException"
    · have hf := rd_t hf e2
      subst e2
      refine rd_caughtP (h := 21) h1 h2 h3 (fun hpl => by rw [hnt]; exact rd_rM (by decide) (by decide) (by decide) (rd_miss hpl C9.1.2.2.2.1 (C9.1.2.2.2.2 _ l_W_13) (hTh.2.2.2.2 (_, _) (List.mem_of_getElem? (i := 6) rfl)) h3) (rd_rM (by decide) (by decide) (by decide) (rd_miss hpl C9.1.2.2.2.1 (C9.1.2.2.2.2 _ l_W_15) (hTh.2.2.2.2 (_, _) (List.mem_of_getElem? (i := 7) rfl)) h3) (rd_rH (by decide) (by decide) (by decide) (rd_hit hpl C9.1.2.2.2.1 (C9.1.2.2.2.2 _ l_W_17) (hTh.2.2.2.1 _ (List.mem_of_getElem? (i := 9) rfl)).2 h3)))) ?_
      refine lv_astore (lv' := [(4, .ref q9), (0, .ref (ad 0)), (1, .int p1), (2, .int p2), (3, .ref (ad 139))]) hx hb d_W_restore_21 hl (by decide) rfl (fun ls hl => ?_)
      refine lv_iconst (v := 3) hx hb d_W_restore_23 (by decide) ?_
      obtain rfl := Option.some.inj hf
      exact rd_iret C9 hlk hret hW ⟨rfl, rfl⟩ (by decide) (by decide) d_W_restore_24
    have hf := rd_f hf e2
    by_cases e3 : E = "java/lang/IllegalStateException"
    · have hf := rd_t hf e3
      subst e3
      refine rd_caughtP (h := 25) h1 h2 h3 (fun hpl => by rw [hnt]; exact rd_rM (by decide) (by decide) (by decide) (rd_miss hpl C9.1.2.2.2.1 (C9.1.2.2.2.2 _ l_W_13) (hTh.2.2.2.2 (_, _) (List.mem_of_getElem? (i := 9) rfl)) h3) (rd_rM (by decide) (by decide) (by decide) (rd_miss hpl C9.1.2.2.2.1 (C9.1.2.2.2.2 _ l_W_15) (hTh.2.2.2.2 (_, _) (List.mem_of_getElem? (i := 10) rfl)) h3) (rd_rM (by decide) (by decide) (by decide) (rd_miss hpl C9.1.2.2.2.1 (C9.1.2.2.2.2 _ l_W_17) (hTh.2.2.2.2 (_, _) (List.mem_of_getElem? (i := 11) rfl)) h3) (rd_rH (by decide) (by decide) (by decide) (rd_hit hpl C9.1.2.2.2.1 (C9.1.2.2.2.2 _ l_W_19) (hTh.2.2.2.1 _ (List.mem_of_getElem? (i := 7) rfl)).2 h3))))) ?_
      refine lv_astore (lv' := [(4, .ref q9), (0, .ref (ad 0)), (1, .int p1), (2, .int p2), (3, .ref (ad 139))]) hx hb d_W_restore_25 hl (by decide) rfl (fun ls hl => ?_)
      refine lv_iconst (v := 4) hx hb d_W_restore_27 (by decide) ?_
      obtain rfl := Option.some.inj hf
      exact rd_iret C9 hlk hret hW ⟨rfl, rfl⟩ (by decide) (by decide) d_W_restore_28
    have hf := rd_f hf e3
    exact (rd_nf hf).elim
  obtain ⟨r1, er1, rfl, rfl⟩ := hp
  have hf := vr1 _ er1
  have hW : rd_W D rd_cl (lw_L Ka) ad (rd_A (lw_L Ka) ad s.heap.size) s.heap (rd_pm 117 0 M r1.2) H locs := hW
  refine lv_i2l hx hb d_W_restore_8 rfl ?_
  refine as_out C9 hW (i := 0) (by decide) (show rd_in 0 1 by decide) d_W_restore_9 (fun H locs hW => ?_)
  obtain ⟨M2, hM2, hf⟩ := rd_k_el hf
  rw [← hM2] at hW
  refine lv_goto (tgt := 29) hx hb d_W_restore_10 (by decide) ?_
  refine lv_iconst (v := 0) hx hb d_W_restore_29 (by decide) ?_
  obtain rfl := Option.some.inj hf
  exact rd_iret C9 hlk hret hW ⟨rfl, rfl⟩ (by decide) (by decide) d_W_restore_30
def f_W_ask (M : rd_M) (p1 : Int32) (p2 : Int32) (p3 : Int32) : Option (Int32 × rd_M) :=
  rd_c (f_K_ask (fun k => M (0 + k)) p1 p2 p3) (fun E =>
    if E = "java/lang/IllegalArgumentException" then some (1, M)
    else if E = "java/util/NoSuchElementException" then some (2, M)
    else if E = "java/lang/UnsupportedOperationException" then some (3, M)
    else if E = "java/lang/IllegalStateException" then some (4, M)
    else none) fun r1 =>
  rd_k (rd_lU (rd_pm 117 0 M r1.2) 139 0 r1.1.toInt64) fun M2 =>
  some (0, M2)
set_option maxRecDepth 100000 in
set_option maxHeartbeats 4000000 in
theorem c_W_ask {l : Launch} (hls : l.stackTraces = false) {D : va_G} {Ka : Nat → ClassId} {ad : Nat → Nat} {M : rd_M} (p1 : Int32) (p2 : Int32) (p3 : Int32)  {o : Int32 × rd_M} (hf : f_W_ask M p1 p2 p3 = some o) :
    rd_MetW l y_W_ask b_W_ask 6 (some .int) [(0, 12, 15, 13), (0, 12, 19, 15), (0, 12, 23, 17), (0, 12, 27, 19)] (9, 156, 8, 48) rd_T rd_ss D rd_cl (rd_ty Ka) (lw_L Ka) ad M [.ref (ad 0), .int p1, .int p2, .int p3, .ref (ad 139)] (fun r M1 => r = some (.int o.1) ∧ o.2 = M1) (fun _ => False) := by
  refine rd_bodyW (by decide) (Nat.le_of_ble_eq_true rfl) ?_
  intro p e s m below meth c C9 hlk hret hnt hTh hW ls hl
  have hx := C9.1.1
  have hb := C9.1.2.1
  have hl : lv_has ls 6 [(0, .ref (ad 0)), (1, .int p1), (2, .int p2), (3, .int p3), (4, .ref (ad 139))] := hl
  unfold f_W_ask at hf
  refine lv_aload hx hb d_W_ask_0 (lv_at hl 4 rfl) ?_
  refine lv_iconst (v := 0) hx hb d_W_ask_2 (by decide) ?_
  refine lv_aload_n hx hb d_W_ask_3 rfl (lv_at hl 0 rfl) ?_
  refine lv_iload_n hx hb d_W_ask_4 rfl (lv_at hl 1 rfl) ?_
  refine lv_iload_n hx hb d_W_ask_5 rfl (lv_at hl 2 rfl) ?_
  refine lv_iload_n hx hb d_W_ask_6 rfl (lv_at hl 3 rfl) ?_
  obtain ⟨or1, qr1, xr1, vr1⟩ := rd_c_run hf
  refine rd_callVS (k := 0) (As := [.int p1, .int p2, .int p3]) (rest := [.int 0, .ref (ad 139)]) lw_EK rd_gd C9 hTh hW (c_K_ask hls p1 p2 p3 qr1) kc_K_ask ki_K_ask ks_K_ask l_W_57 rfl lt_K ce_K rfl ⟨Nat.le_of_ble_eq_true rfl, Nat.le_of_ble_eq_true rfl⟩ ⟨Nat.le_of_ble_eq_true rfl, Nat.le_of_ble_eq_true rfl⟩ hl.1 rfl (Nat.le_of_ble_eq_true rfl) d_W_ask_7 (fun E ce q9 H locs hex hW h1 h2 h3 => ?_) (fun rr MM H locs hp hW => ?_)
  · have hf := xr1 E hex
    by_cases e0 : E = "java/lang/IllegalArgumentException"
    · have hf := rd_t hf e0
      subst e0
      refine rd_caughtP (h := 15) h1 h2 h3 (fun hpl => by rw [hnt]; exact rd_rH (by decide) (by decide) (by decide) (rd_hit hpl C9.1.2.2.2.1 (C9.1.2.2.2.2 _ l_W_13) (hTh.2.2.2.1 _ (List.mem_of_getElem? (i := 0) rfl)).2 h3)) ?_
      refine lv_astore (lv' := [(5, .ref q9), (0, .ref (ad 0)), (1, .int p1), (2, .int p2), (3, .int p3), (4, .ref (ad 139))]) hx hb d_W_ask_15 hl (by decide) rfl (fun ls hl => ?_)
      refine lv_iconst (v := 1) hx hb d_W_ask_17 (by decide) ?_
      obtain rfl := Option.some.inj hf
      exact rd_iret C9 hlk hret hW ⟨rfl, rfl⟩ (by decide) (by decide) d_W_ask_18
    have hf := rd_f hf e0
    by_cases e1 : E = "java/util/NoSuchElementException"
    · have hf := rd_t hf e1
      subst e1
      refine rd_caughtP (h := 19) h1 h2 h3 (fun hpl => by rw [hnt]; exact rd_rM (by decide) (by decide) (by decide) (rd_miss hpl C9.1.2.2.2.1 (C9.1.2.2.2.2 _ l_W_13) (hTh.2.2.2.2 (_, _) (List.mem_of_getElem? (i := 3) rfl)) h3) (rd_rH (by decide) (by decide) (by decide) (rd_hit hpl C9.1.2.2.2.1 (C9.1.2.2.2.2 _ l_W_15) (hTh.2.2.2.1 _ (List.mem_of_getElem? (i := 8) rfl)).2 h3))) ?_
      refine lv_astore (lv' := [(5, .ref q9), (0, .ref (ad 0)), (1, .int p1), (2, .int p2), (3, .int p3), (4, .ref (ad 139))]) hx hb d_W_ask_19 hl (by decide) rfl (fun ls hl => ?_)
      refine lv_iconst (v := 2) hx hb d_W_ask_21 (by decide) ?_
      obtain rfl := Option.some.inj hf
      exact rd_iret C9 hlk hret hW ⟨rfl, rfl⟩ (by decide) (by decide) d_W_ask_22
    have hf := rd_f hf e1
    by_cases e2 : E = "java/lang/UnsupportedOperationException"
    · have hf := rd_t hf e2
      subst e2
      refine rd_caughtP (h := 23) h1 h2 h3 (fun hpl => by rw [hnt]; exact rd_rM (by decide) (by decide) (by decide) (rd_miss hpl C9.1.2.2.2.1 (C9.1.2.2.2.2 _ l_W_13) (hTh.2.2.2.2 (_, _) (List.mem_of_getElem? (i := 6) rfl)) h3) (rd_rM (by decide) (by decide) (by decide) (rd_miss hpl C9.1.2.2.2.1 (C9.1.2.2.2.2 _ l_W_15) (hTh.2.2.2.2 (_, _) (List.mem_of_getElem? (i := 7) rfl)) h3) (rd_rH (by decide) (by decide) (by decide) (rd_hit hpl C9.1.2.2.2.1 (C9.1.2.2.2.2 _ l_W_17) (hTh.2.2.2.1 _ (List.mem_of_getElem? (i := 9) rfl)).2 h3)))) ?_
      refine lv_astore (lv' := [(5, .ref q9), (0, .ref (ad 0)), (1, .int p1), (2, .int p2), (3, .int p3), (4, .ref (ad 139))]) hx hb d_W_ask_23 hl (by decide) rfl (fun ls hl => ?_)
      refine lv_iconst (v := 3) hx hb d_W_ask_25 (by decide) ?_
      obtain rfl := Option.some.inj hf
      exact rd_iret C9 hlk hret hW ⟨rfl, rfl⟩ (by decide) (by decide) d_W_ask_26
    have hf := rd_f hf e2
    by_cases e3 : E = "java/lang/IllegalStateException"
    · have hf := rd_t hf e3
      subst e3
      refine rd_caughtP (h := 27) h1 h2 h3 (fun hpl => by rw [hnt]; exact rd_rM (by decide) (by decide) (by decide) (rd_miss hpl C9.1.2.2.2.1 (C9.1.2.2.2.2 _ l_W_13) (hTh.2.2.2.2 (_, _) (List.mem_of_getElem? (i := 9) rfl)) h3) (rd_rM (by decide) (by decide) (by decide) (rd_miss hpl C9.1.2.2.2.1 (C9.1.2.2.2.2 _ l_W_15) (hTh.2.2.2.2 (_, _) (List.mem_of_getElem? (i := 10) rfl)) h3) (rd_rM (by decide) (by decide) (by decide) (rd_miss hpl C9.1.2.2.2.1 (C9.1.2.2.2.2 _ l_W_17) (hTh.2.2.2.2 (_, _) (List.mem_of_getElem? (i := 11) rfl)) h3) (rd_rH (by decide) (by decide) (by decide) (rd_hit hpl C9.1.2.2.2.1 (C9.1.2.2.2.2 _ l_W_19) (hTh.2.2.2.1 _ (List.mem_of_getElem? (i := 7) rfl)).2 h3))))) ?_
      refine lv_astore (lv' := [(5, .ref q9), (0, .ref (ad 0)), (1, .int p1), (2, .int p2), (3, .int p3), (4, .ref (ad 139))]) hx hb d_W_ask_27 hl (by decide) rfl (fun ls hl => ?_)
      refine lv_iconst (v := 4) hx hb d_W_ask_29 (by decide) ?_
      obtain rfl := Option.some.inj hf
      exact rd_iret C9 hlk hret hW ⟨rfl, rfl⟩ (by decide) (by decide) d_W_ask_30
    have hf := rd_f hf e3
    exact (rd_nf hf).elim
  obtain ⟨r1, er1, rfl, rfl⟩ := hp
  have hf := vr1 _ er1
  have hW : rd_W D rd_cl (lw_L Ka) ad (rd_A (lw_L Ka) ad s.heap.size) s.heap (rd_pm 117 0 M r1.2) H locs := hW
  refine lv_i2l hx hb d_W_ask_10 rfl ?_
  refine as_out C9 hW (i := 0) (by decide) (show rd_in 0 1 by decide) d_W_ask_11 (fun H locs hW => ?_)
  obtain ⟨M2, hM2, hf⟩ := rd_k_el hf
  rw [← hM2] at hW
  refine lv_goto (tgt := 31) hx hb d_W_ask_12 (by decide) ?_
  refine lv_iconst (v := 0) hx hb d_W_ask_31 (by decide) ?_
  obtain rfl := Option.some.inj hf
  exact rd_iret C9 hlk hret hW ⟨rfl, rfl⟩ (by decide) (by decide) d_W_ask_32
def f_W_answer (M : rd_M) (p1 : Int32) (p2 : Int32) (p3 : Int32) : Option (Int32 × rd_M) :=
  rd_c (f_K_answer (fun k => M (0 + k)) p1 p2 p3) (fun E =>
    if E = "java/lang/IllegalArgumentException" then some (1, M)
    else if E = "java/util/NoSuchElementException" then some (2, M)
    else if E = "java/lang/UnsupportedOperationException" then some (3, M)
    else if E = "java/lang/IllegalStateException" then some (4, M)
    else none) fun r1 =>
  rd_k (rd_lU (rd_pm 117 0 M r1.2) 139 0 r1.1.toInt64) fun M2 =>
  some (0, M2)
set_option maxRecDepth 100000 in
set_option maxHeartbeats 4000000 in
theorem c_W_answer {l : Launch} (hls : l.stackTraces = false) {D : va_G} {Ka : Nat → ClassId} {ad : Nat → Nat} {M : rd_M} (p1 : Int32) (p2 : Int32) (p3 : Int32)  {o : Int32 × rd_M} (hf : f_W_answer M p1 p2 p3 = some o) :
    rd_MetW l y_W_answer b_W_answer 6 (some .int) [(0, 12, 15, 13), (0, 12, 19, 15), (0, 12, 23, 17), (0, 12, 27, 19)] (9, 156, 5, 30) rd_T rd_ss D rd_cl (rd_ty Ka) (lw_L Ka) ad M [.ref (ad 0), .int p1, .int p2, .int p3, .ref (ad 139)] (fun r M1 => r = some (.int o.1) ∧ o.2 = M1) (fun _ => False) := by
  refine rd_bodyW (by decide) (Nat.le_of_ble_eq_true rfl) ?_
  intro p e s m below meth c C9 hlk hret hnt hTh hW ls hl
  have hx := C9.1.1
  have hb := C9.1.2.1
  have hl : lv_has ls 6 [(0, .ref (ad 0)), (1, .int p1), (2, .int p2), (3, .int p3), (4, .ref (ad 139))] := hl
  unfold f_W_answer at hf
  refine lv_aload hx hb d_W_answer_0 (lv_at hl 4 rfl) ?_
  refine lv_iconst (v := 0) hx hb d_W_answer_2 (by decide) ?_
  refine lv_aload_n hx hb d_W_answer_3 rfl (lv_at hl 0 rfl) ?_
  refine lv_iload_n hx hb d_W_answer_4 rfl (lv_at hl 1 rfl) ?_
  refine lv_iload_n hx hb d_W_answer_5 rfl (lv_at hl 2 rfl) ?_
  refine lv_iload_n hx hb d_W_answer_6 rfl (lv_at hl 3 rfl) ?_
  obtain ⟨or1, qr1, xr1, vr1⟩ := rd_c_run hf
  refine rd_callVS (k := 0) (As := [.int p1, .int p2, .int p3]) (rest := [.int 0, .ref (ad 139)]) lw_EK rd_gd C9 hTh hW (c_K_answer hls p1 p2 p3 qr1) kc_K_answer ki_K_answer ks_K_answer l_W_60 rfl lt_K ce_K rfl ⟨Nat.le_of_ble_eq_true rfl, Nat.le_of_ble_eq_true rfl⟩ ⟨Nat.le_of_ble_eq_true rfl, Nat.le_of_ble_eq_true rfl⟩ hl.1 rfl (Nat.le_of_ble_eq_true rfl) d_W_answer_7 (fun E ce q9 H locs hex hW h1 h2 h3 => ?_) (fun rr MM H locs hp hW => ?_)
  · have hf := xr1 E hex
    by_cases e0 : E = "java/lang/IllegalArgumentException"
    · have hf := rd_t hf e0
      subst e0
      refine rd_caughtP (h := 15) h1 h2 h3 (fun hpl => by rw [hnt]; exact rd_rH (by decide) (by decide) (by decide) (rd_hit hpl C9.1.2.2.2.1 (C9.1.2.2.2.2 _ l_W_13) (hTh.2.2.2.1 _ (List.mem_of_getElem? (i := 0) rfl)).2 h3)) ?_
      refine lv_astore (lv' := [(5, .ref q9), (0, .ref (ad 0)), (1, .int p1), (2, .int p2), (3, .int p3), (4, .ref (ad 139))]) hx hb d_W_answer_15 hl (by decide) rfl (fun ls hl => ?_)
      refine lv_iconst (v := 1) hx hb d_W_answer_17 (by decide) ?_
      obtain rfl := Option.some.inj hf
      exact rd_iret C9 hlk hret hW ⟨rfl, rfl⟩ (by decide) (by decide) d_W_answer_18
    have hf := rd_f hf e0
    by_cases e1 : E = "java/util/NoSuchElementException"
    · have hf := rd_t hf e1
      subst e1
      refine rd_caughtP (h := 19) h1 h2 h3 (fun hpl => by rw [hnt]; exact rd_rM (by decide) (by decide) (by decide) (rd_miss hpl C9.1.2.2.2.1 (C9.1.2.2.2.2 _ l_W_13) (hTh.2.2.2.2 (_, _) (List.mem_of_getElem? (i := 3) rfl)) h3) (rd_rH (by decide) (by decide) (by decide) (rd_hit hpl C9.1.2.2.2.1 (C9.1.2.2.2.2 _ l_W_15) (hTh.2.2.2.1 _ (List.mem_of_getElem? (i := 8) rfl)).2 h3))) ?_
      refine lv_astore (lv' := [(5, .ref q9), (0, .ref (ad 0)), (1, .int p1), (2, .int p2), (3, .int p3), (4, .ref (ad 139))]) hx hb d_W_answer_19 hl (by decide) rfl (fun ls hl => ?_)
      refine lv_iconst (v := 2) hx hb d_W_answer_21 (by decide) ?_
      obtain rfl := Option.some.inj hf
      exact rd_iret C9 hlk hret hW ⟨rfl, rfl⟩ (by decide) (by decide) d_W_answer_22
    have hf := rd_f hf e1
    by_cases e2 : E = "java/lang/UnsupportedOperationException"
    · have hf := rd_t hf e2
      subst e2
      refine rd_caughtP (h := 23) h1 h2 h3 (fun hpl => by rw [hnt]; exact rd_rM (by decide) (by decide) (by decide) (rd_miss hpl C9.1.2.2.2.1 (C9.1.2.2.2.2 _ l_W_13) (hTh.2.2.2.2 (_, _) (List.mem_of_getElem? (i := 6) rfl)) h3) (rd_rM (by decide) (by decide) (by decide) (rd_miss hpl C9.1.2.2.2.1 (C9.1.2.2.2.2 _ l_W_15) (hTh.2.2.2.2 (_, _) (List.mem_of_getElem? (i := 7) rfl)) h3) (rd_rH (by decide) (by decide) (by decide) (rd_hit hpl C9.1.2.2.2.1 (C9.1.2.2.2.2 _ l_W_17) (hTh.2.2.2.1 _ (List.mem_of_getElem? (i := 9) rfl)).2 h3)))) ?_
      refine lv_astore (lv' := [(5, .ref q9), (0, .ref (ad 0)), (1, .int p1), (2, .int p2), (3, .int p3), (4, .ref (ad 139))]) hx hb d_W_answer_23 hl (by decide) rfl (fun ls hl => ?_)
      refine lv_iconst (v := 3) hx hb d_W_answer_25 (by decide) ?_
      obtain rfl := Option.some.inj hf
      exact rd_iret C9 hlk hret hW ⟨rfl, rfl⟩ (by decide) (by decide) d_W_answer_26
    have hf := rd_f hf e2
    by_cases e3 : E = "java/lang/IllegalStateException"
    · have hf := rd_t hf e3
      subst e3
      refine rd_caughtP (h := 27) h1 h2 h3 (fun hpl => by rw [hnt]; exact rd_rM (by decide) (by decide) (by decide) (rd_miss hpl C9.1.2.2.2.1 (C9.1.2.2.2.2 _ l_W_13) (hTh.2.2.2.2 (_, _) (List.mem_of_getElem? (i := 9) rfl)) h3) (rd_rM (by decide) (by decide) (by decide) (rd_miss hpl C9.1.2.2.2.1 (C9.1.2.2.2.2 _ l_W_15) (hTh.2.2.2.2 (_, _) (List.mem_of_getElem? (i := 10) rfl)) h3) (rd_rM (by decide) (by decide) (by decide) (rd_miss hpl C9.1.2.2.2.1 (C9.1.2.2.2.2 _ l_W_17) (hTh.2.2.2.2 (_, _) (List.mem_of_getElem? (i := 11) rfl)) h3) (rd_rH (by decide) (by decide) (by decide) (rd_hit hpl C9.1.2.2.2.1 (C9.1.2.2.2.2 _ l_W_19) (hTh.2.2.2.1 _ (List.mem_of_getElem? (i := 7) rfl)).2 h3))))) ?_
      refine lv_astore (lv' := [(5, .ref q9), (0, .ref (ad 0)), (1, .int p1), (2, .int p2), (3, .int p3), (4, .ref (ad 139))]) hx hb d_W_answer_27 hl (by decide) rfl (fun ls hl => ?_)
      refine lv_iconst (v := 4) hx hb d_W_answer_29 (by decide) ?_
      obtain rfl := Option.some.inj hf
      exact rd_iret C9 hlk hret hW ⟨rfl, rfl⟩ (by decide) (by decide) d_W_answer_30
    have hf := rd_f hf e3
    exact (rd_nf hf).elim
  obtain ⟨r1, er1, rfl, rfl⟩ := hp
  have hf := vr1 _ er1
  have hW : rd_W D rd_cl (lw_L Ka) ad (rd_A (lw_L Ka) ad s.heap.size) s.heap (rd_pm 117 0 M r1.2) H locs := hW
  refine lv_i2l hx hb d_W_answer_10 rfl ?_
  refine as_out C9 hW (i := 0) (by decide) (show rd_in 0 1 by decide) d_W_answer_11 (fun H locs hW => ?_)
  obtain ⟨M2, hM2, hf⟩ := rd_k_el hf
  rw [← hM2] at hW
  refine lv_goto (tgt := 31) hx hb d_W_answer_12 (by decide) ?_
  refine lv_iconst (v := 0) hx hb d_W_answer_31 (by decide) ?_
  obtain rfl := Option.some.inj hf
  exact rd_iret C9 hlk hret hW ⟨rfl, rfl⟩ (by decide) (by decide) d_W_answer_32
def f_W_pass (M : rd_M) (p1 : Int32) : Option (Int32 × rd_M) :=
  rd_c (f_K_pass (fun k => M (0 + k)) p1) (fun E =>
    if E = "java/lang/IllegalArgumentException" then some (1, M)
    else if E = "java/util/NoSuchElementException" then some (2, M)
    else if E = "java/lang/UnsupportedOperationException" then some (3, M)
    else if E = "java/lang/IllegalStateException" then some (4, M)
    else none) fun r1 =>
  rd_k (rd_lU (rd_pm 117 0 M r1.2) 139 0 r1.1.toInt64) fun M2 =>
  some (0, M2)
set_option maxRecDepth 100000 in
set_option maxHeartbeats 4000000 in
theorem c_W_pass {l : Launch} (hls : l.stackTraces = false) {D : va_G} {Ka : Nat → ClassId} {ad : Nat → Nat} {M : rd_M} (p1 : Int32)  {o : Int32 × rd_M} (hf : f_W_pass M p1 = some o) :
    rd_MetW l y_W_pass b_W_pass 4 (some .int) [(0, 9, 12, 13), (0, 9, 15, 15), (0, 9, 18, 17), (0, 9, 21, 19)] (8, 158, 1, 6) rd_T rd_ss D rd_cl (rd_ty Ka) (lw_L Ka) ad M [.ref (ad 0), .int p1, .ref (ad 139)] (fun r M1 => r = some (.int o.1) ∧ o.2 = M1) (fun _ => False) := by
  refine rd_bodyW (by decide) (Nat.le_of_ble_eq_true rfl) ?_
  intro p e s m below meth c C9 hlk hret hnt hTh hW ls hl
  have hx := C9.1.1
  have hb := C9.1.2.1
  have hl : lv_has ls 4 [(0, .ref (ad 0)), (1, .int p1), (2, .ref (ad 139))] := hl
  unfold f_W_pass at hf
  refine lv_aload_n hx hb d_W_pass_0 rfl (lv_at hl 2 rfl) ?_
  refine lv_iconst (v := 0) hx hb d_W_pass_1 (by decide) ?_
  refine lv_aload_n hx hb d_W_pass_2 rfl (lv_at hl 0 rfl) ?_
  refine lv_iload_n hx hb d_W_pass_3 rfl (lv_at hl 1 rfl) ?_
  obtain ⟨or1, qr1, xr1, vr1⟩ := rd_c_run hf
  refine rd_callVS (k := 0) (As := [.int p1]) (rest := [.int 0, .ref (ad 139)]) lw_EK rd_gd C9 hTh hW (c_K_pass hls p1 qr1) kc_K_pass ki_K_pass ks_K_pass l_W_64 rfl lt_K ce_K rfl ⟨Nat.le_of_ble_eq_true rfl, Nat.le_of_ble_eq_true rfl⟩ ⟨Nat.le_of_ble_eq_true rfl, Nat.le_of_ble_eq_true rfl⟩ hl.1 rfl (Nat.le_of_ble_eq_true rfl) d_W_pass_4 (fun E ce q9 H locs hex hW h1 h2 h3 => ?_) (fun rr MM H locs hp hW => ?_)
  · have hf := xr1 E hex
    by_cases e0 : E = "java/lang/IllegalArgumentException"
    · have hf := rd_t hf e0
      subst e0
      refine rd_caughtP (h := 12) h1 h2 h3 (fun hpl => by rw [hnt]; exact rd_rH (by decide) (by decide) (by decide) (rd_hit hpl C9.1.2.2.2.1 (C9.1.2.2.2.2 _ l_W_13) (hTh.2.2.2.1 _ (List.mem_of_getElem? (i := 0) rfl)).2 h3)) ?_
      refine lv_astore_n (lv' := [(3, .ref q9), (0, .ref (ad 0)), (1, .int p1), (2, .ref (ad 139))]) hx hb d_W_pass_12 rfl hl (by decide) rfl (fun ls hl => ?_)
      refine lv_iconst (v := 1) hx hb d_W_pass_13 (by decide) ?_
      obtain rfl := Option.some.inj hf
      exact rd_iret C9 hlk hret hW ⟨rfl, rfl⟩ (by decide) (by decide) d_W_pass_14
    have hf := rd_f hf e0
    by_cases e1 : E = "java/util/NoSuchElementException"
    · have hf := rd_t hf e1
      subst e1
      refine rd_caughtP (h := 15) h1 h2 h3 (fun hpl => by rw [hnt]; exact rd_rM (by decide) (by decide) (by decide) (rd_miss hpl C9.1.2.2.2.1 (C9.1.2.2.2.2 _ l_W_13) (hTh.2.2.2.2 (_, _) (List.mem_of_getElem? (i := 3) rfl)) h3) (rd_rH (by decide) (by decide) (by decide) (rd_hit hpl C9.1.2.2.2.1 (C9.1.2.2.2.2 _ l_W_15) (hTh.2.2.2.1 _ (List.mem_of_getElem? (i := 8) rfl)).2 h3))) ?_
      refine lv_astore_n (lv' := [(3, .ref q9), (0, .ref (ad 0)), (1, .int p1), (2, .ref (ad 139))]) hx hb d_W_pass_15 rfl hl (by decide) rfl (fun ls hl => ?_)
      refine lv_iconst (v := 2) hx hb d_W_pass_16 (by decide) ?_
      obtain rfl := Option.some.inj hf
      exact rd_iret C9 hlk hret hW ⟨rfl, rfl⟩ (by decide) (by decide) d_W_pass_17
    have hf := rd_f hf e1
    by_cases e2 : E = "java/lang/UnsupportedOperationException"
    · have hf := rd_t hf e2
      subst e2
      refine rd_caughtP (h := 18) h1 h2 h3 (fun hpl => by rw [hnt]; exact rd_rM (by decide) (by decide) (by decide) (rd_miss hpl C9.1.2.2.2.1 (C9.1.2.2.2.2 _ l_W_13) (hTh.2.2.2.2 (_, _) (List.mem_of_getElem? (i := 6) rfl)) h3) (rd_rM (by decide) (by decide) (by decide) (rd_miss hpl C9.1.2.2.2.1 (C9.1.2.2.2.2 _ l_W_15) (hTh.2.2.2.2 (_, _) (List.mem_of_getElem? (i := 7) rfl)) h3) (rd_rH (by decide) (by decide) (by decide) (rd_hit hpl C9.1.2.2.2.1 (C9.1.2.2.2.2 _ l_W_17) (hTh.2.2.2.1 _ (List.mem_of_getElem? (i := 9) rfl)).2 h3)))) ?_
      refine lv_astore_n (lv' := [(3, .ref q9), (0, .ref (ad 0)), (1, .int p1), (2, .ref (ad 139))]) hx hb d_W_pass_18 rfl hl (by decide) rfl (fun ls hl => ?_)
      refine lv_iconst (v := 3) hx hb d_W_pass_19 (by decide) ?_
      obtain rfl := Option.some.inj hf
      exact rd_iret C9 hlk hret hW ⟨rfl, rfl⟩ (by decide) (by decide) d_W_pass_20
    have hf := rd_f hf e2
    by_cases e3 : E = "java/lang/IllegalStateException"
    · have hf := rd_t hf e3
      subst e3
      refine rd_caughtP (h := 21) h1 h2 h3 (fun hpl => by rw [hnt]; exact rd_rM (by decide) (by decide) (by decide) (rd_miss hpl C9.1.2.2.2.1 (C9.1.2.2.2.2 _ l_W_13) (hTh.2.2.2.2 (_, _) (List.mem_of_getElem? (i := 9) rfl)) h3) (rd_rM (by decide) (by decide) (by decide) (rd_miss hpl C9.1.2.2.2.1 (C9.1.2.2.2.2 _ l_W_15) (hTh.2.2.2.2 (_, _) (List.mem_of_getElem? (i := 10) rfl)) h3) (rd_rM (by decide) (by decide) (by decide) (rd_miss hpl C9.1.2.2.2.1 (C9.1.2.2.2.2 _ l_W_17) (hTh.2.2.2.2 (_, _) (List.mem_of_getElem? (i := 11) rfl)) h3) (rd_rH (by decide) (by decide) (by decide) (rd_hit hpl C9.1.2.2.2.1 (C9.1.2.2.2.2 _ l_W_19) (hTh.2.2.2.1 _ (List.mem_of_getElem? (i := 7) rfl)).2 h3))))) ?_
      refine lv_astore_n (lv' := [(3, .ref q9), (0, .ref (ad 0)), (1, .int p1), (2, .ref (ad 139))]) hx hb d_W_pass_21 rfl hl (by decide) rfl (fun ls hl => ?_)
      refine lv_iconst (v := 4) hx hb d_W_pass_22 (by decide) ?_
      obtain rfl := Option.some.inj hf
      exact rd_iret C9 hlk hret hW ⟨rfl, rfl⟩ (by decide) (by decide) d_W_pass_23
    have hf := rd_f hf e3
    exact (rd_nf hf).elim
  obtain ⟨r1, er1, rfl, rfl⟩ := hp
  have hf := vr1 _ er1
  have hW : rd_W D rd_cl (lw_L Ka) ad (rd_A (lw_L Ka) ad s.heap.size) s.heap (rd_pm 117 0 M r1.2) H locs := hW
  refine lv_i2l hx hb d_W_pass_7 rfl ?_
  refine as_out C9 hW (i := 0) (by decide) (show rd_in 0 1 by decide) d_W_pass_8 (fun H locs hW => ?_)
  obtain ⟨M2, hM2, hf⟩ := rd_k_el hf
  rw [← hM2] at hW
  refine lv_goto (tgt := 24) hx hb d_W_pass_9 (by decide) ?_
  refine lv_iconst (v := 0) hx hb d_W_pass_24 (by decide) ?_
  obtain rfl := Option.some.inj hf
  exact rd_iret C9 hlk hret hW ⟨rfl, rfl⟩ (by decide) (by decide) d_W_pass_25
def f_W_message (M : rd_M) (p1 : Int32) : Option (Int32 × rd_M) :=
  rd_c (f_K_message (fun k => M (0 + k)) p1) (fun E =>
    if E = "java/lang/IllegalArgumentException" then some (1, M)
    else if E = "java/util/NoSuchElementException" then some (2, M)
    else if E = "java/lang/UnsupportedOperationException" then some (3, M)
    else if E = "java/lang/IllegalStateException" then some (4, M)
    else none) fun r1 =>
  rd_k (rd_lU M 139 0 r1.toInt64) fun M2 =>
  some (0, M2)
set_option maxRecDepth 100000 in
set_option maxHeartbeats 4000000 in
theorem c_W_message {l : Launch} (hls : l.stackTraces = false) {D : va_G} {Ka : Nat → ClassId} {ad : Nat → Nat} {M : rd_M} (p1 : Int32)  {o : Int32 × rd_M} (hf : f_W_message M p1 = some o) :
    rd_MetW l y_W_message b_W_message 4 (some .int) [(0, 9, 12, 13), (0, 9, 15, 15), (0, 9, 18, 17), (0, 9, 21, 19)] (9, 153, 2, 12) rd_T rd_ss D rd_cl (rd_ty Ka) (lw_L Ka) ad M [.ref (ad 0), .int p1, .ref (ad 139)] (fun r M1 => r = some (.int o.1) ∧ o.2 = M1) (fun _ => False) := by
  refine rd_bodyW (by decide) (Nat.le_of_ble_eq_true rfl) ?_
  intro p e s m below meth c C9 hlk hret hnt hTh hW ls hl
  have hx := C9.1.1
  have hb := C9.1.2.1
  have hl : lv_has ls 4 [(0, .ref (ad 0)), (1, .int p1), (2, .ref (ad 139))] := hl
  unfold f_W_message at hf
  refine lv_aload_n hx hb d_W_message_0 rfl (lv_at hl 2 rfl) ?_
  refine lv_iconst (v := 0) hx hb d_W_message_1 (by decide) ?_
  refine lv_aload_n hx hb d_W_message_2 rfl (lv_at hl 0 rfl) ?_
  refine lv_iload_n hx hb d_W_message_3 rfl (lv_at hl 1 rfl) ?_
  obtain ⟨or1, qr1, xr1, vr1⟩ := rd_c_run hf
  refine rd_callVS (k := 0) (As := [.int p1]) (rest := [.int 0, .ref (ad 139)]) lw_EK rd_gd C9 hTh hW (c_K_message hls p1 qr1) kc_K_message ki_K_message ks_K_message l_W_67 rfl lt_K ce_K rfl ⟨Nat.le_of_ble_eq_true rfl, Nat.le_of_ble_eq_true rfl⟩ ⟨Nat.le_of_ble_eq_true rfl, Nat.le_of_ble_eq_true rfl⟩ hl.1 rfl (Nat.le_of_ble_eq_true rfl) d_W_message_4 (fun E ce q9 H locs hex hW h1 h2 h3 => ?_) (fun rr MM H locs hp hW => ?_)
  · have hf := xr1 E hex
    by_cases e0 : E = "java/lang/IllegalArgumentException"
    · have hf := rd_t hf e0
      subst e0
      refine rd_caughtP (h := 12) h1 h2 h3 (fun hpl => by rw [hnt]; exact rd_rH (by decide) (by decide) (by decide) (rd_hit hpl C9.1.2.2.2.1 (C9.1.2.2.2.2 _ l_W_13) (hTh.2.2.2.1 _ (List.mem_of_getElem? (i := 0) rfl)).2 h3)) ?_
      refine lv_astore_n (lv' := [(3, .ref q9), (0, .ref (ad 0)), (1, .int p1), (2, .ref (ad 139))]) hx hb d_W_message_12 rfl hl (by decide) rfl (fun ls hl => ?_)
      refine lv_iconst (v := 1) hx hb d_W_message_13 (by decide) ?_
      obtain rfl := Option.some.inj hf
      exact rd_iret C9 hlk hret hW ⟨rfl, rfl⟩ (by decide) (by decide) d_W_message_14
    have hf := rd_f hf e0
    by_cases e1 : E = "java/util/NoSuchElementException"
    · have hf := rd_t hf e1
      subst e1
      refine rd_caughtP (h := 15) h1 h2 h3 (fun hpl => by rw [hnt]; exact rd_rM (by decide) (by decide) (by decide) (rd_miss hpl C9.1.2.2.2.1 (C9.1.2.2.2.2 _ l_W_13) (hTh.2.2.2.2 (_, _) (List.mem_of_getElem? (i := 3) rfl)) h3) (rd_rH (by decide) (by decide) (by decide) (rd_hit hpl C9.1.2.2.2.1 (C9.1.2.2.2.2 _ l_W_15) (hTh.2.2.2.1 _ (List.mem_of_getElem? (i := 8) rfl)).2 h3))) ?_
      refine lv_astore_n (lv' := [(3, .ref q9), (0, .ref (ad 0)), (1, .int p1), (2, .ref (ad 139))]) hx hb d_W_message_15 rfl hl (by decide) rfl (fun ls hl => ?_)
      refine lv_iconst (v := 2) hx hb d_W_message_16 (by decide) ?_
      obtain rfl := Option.some.inj hf
      exact rd_iret C9 hlk hret hW ⟨rfl, rfl⟩ (by decide) (by decide) d_W_message_17
    have hf := rd_f hf e1
    by_cases e2 : E = "java/lang/UnsupportedOperationException"
    · have hf := rd_t hf e2
      subst e2
      refine rd_caughtP (h := 18) h1 h2 h3 (fun hpl => by rw [hnt]; exact rd_rM (by decide) (by decide) (by decide) (rd_miss hpl C9.1.2.2.2.1 (C9.1.2.2.2.2 _ l_W_13) (hTh.2.2.2.2 (_, _) (List.mem_of_getElem? (i := 6) rfl)) h3) (rd_rM (by decide) (by decide) (by decide) (rd_miss hpl C9.1.2.2.2.1 (C9.1.2.2.2.2 _ l_W_15) (hTh.2.2.2.2 (_, _) (List.mem_of_getElem? (i := 7) rfl)) h3) (rd_rH (by decide) (by decide) (by decide) (rd_hit hpl C9.1.2.2.2.1 (C9.1.2.2.2.2 _ l_W_17) (hTh.2.2.2.1 _ (List.mem_of_getElem? (i := 9) rfl)).2 h3)))) ?_
      refine lv_astore_n (lv' := [(3, .ref q9), (0, .ref (ad 0)), (1, .int p1), (2, .ref (ad 139))]) hx hb d_W_message_18 rfl hl (by decide) rfl (fun ls hl => ?_)
      refine lv_iconst (v := 3) hx hb d_W_message_19 (by decide) ?_
      obtain rfl := Option.some.inj hf
      exact rd_iret C9 hlk hret hW ⟨rfl, rfl⟩ (by decide) (by decide) d_W_message_20
    have hf := rd_f hf e2
    by_cases e3 : E = "java/lang/IllegalStateException"
    · have hf := rd_t hf e3
      subst e3
      refine rd_caughtP (h := 21) h1 h2 h3 (fun hpl => by rw [hnt]; exact rd_rM (by decide) (by decide) (by decide) (rd_miss hpl C9.1.2.2.2.1 (C9.1.2.2.2.2 _ l_W_13) (hTh.2.2.2.2 (_, _) (List.mem_of_getElem? (i := 9) rfl)) h3) (rd_rM (by decide) (by decide) (by decide) (rd_miss hpl C9.1.2.2.2.1 (C9.1.2.2.2.2 _ l_W_15) (hTh.2.2.2.2 (_, _) (List.mem_of_getElem? (i := 10) rfl)) h3) (rd_rM (by decide) (by decide) (by decide) (rd_miss hpl C9.1.2.2.2.1 (C9.1.2.2.2.2 _ l_W_17) (hTh.2.2.2.2 (_, _) (List.mem_of_getElem? (i := 11) rfl)) h3) (rd_rH (by decide) (by decide) (by decide) (rd_hit hpl C9.1.2.2.2.1 (C9.1.2.2.2.2 _ l_W_19) (hTh.2.2.2.1 _ (List.mem_of_getElem? (i := 7) rfl)).2 h3))))) ?_
      refine lv_astore_n (lv' := [(3, .ref q9), (0, .ref (ad 0)), (1, .int p1), (2, .ref (ad 139))]) hx hb d_W_message_21 rfl hl (by decide) rfl (fun ls hl => ?_)
      refine lv_iconst (v := 4) hx hb d_W_message_22 (by decide) ?_
      obtain rfl := Option.some.inj hf
      exact rd_iret C9 hlk hret hW ⟨rfl, rfl⟩ (by decide) (by decide) d_W_message_23
    have hf := rd_f hf e3
    exact (rd_nf hf).elim
  obtain ⟨r1, er1, rfl, rfl⟩ := hp
  have hf := vr1 _ er1
  rw [rd_pm_self] at hW
  refine lv_i2l hx hb d_W_message_7 rfl ?_
  refine as_out C9 hW (i := 0) (by decide) (show rd_in 0 1 by decide) d_W_message_8 (fun H locs hW => ?_)
  obtain ⟨M2, hM2, hf⟩ := rd_k_el hf
  rw [← hM2] at hW
  refine lv_goto (tgt := 24) hx hb d_W_message_9 (by decide) ?_
  refine lv_iconst (v := 0) hx hb d_W_message_24 (by decide) ?_
  obtain rfl := Option.some.inj hf
  exact rd_iret C9 hlk hret hW ⟨rfl, rfl⟩ (by decide) (by decide) d_W_message_25
def f_W_acknowledge (M : rd_M) (p1 : Int32) : Option (Int32 × rd_M) :=
  rd_c (f_K_acknowledge (fun k => M (0 + k)) p1) (fun E =>
    if E = "java/lang/IllegalArgumentException" then some (1, M)
    else if E = "java/util/NoSuchElementException" then some (2, M)
    else if E = "java/lang/UnsupportedOperationException" then some (3, M)
    else if E = "java/lang/IllegalStateException" then some (4, M)
    else none) fun r1 =>
  rd_k (rd_lU (rd_pm 117 0 M r1.2) 139 0 r1.1.toInt64) fun M2 =>
  some (0, M2)
set_option maxRecDepth 100000 in
set_option maxHeartbeats 4000000 in
theorem c_W_acknowledge {l : Launch} (hls : l.stackTraces = false) {D : va_G} {Ka : Nat → ClassId} {ad : Nat → Nat} {M : rd_M} (p1 : Int32)  {o : Int32 × rd_M} (hf : f_W_acknowledge M p1 = some o) :
    rd_MetW l y_W_acknowledge b_W_acknowledge 4 (some .int) [(0, 9, 12, 13), (0, 9, 15, 15), (0, 9, 18, 17), (0, 9, 21, 19)] (9, 153, 2, 12) rd_T rd_ss D rd_cl (rd_ty Ka) (lw_L Ka) ad M [.ref (ad 0), .int p1, .ref (ad 139)] (fun r M1 => r = some (.int o.1) ∧ o.2 = M1) (fun _ => False) := by
  refine rd_bodyW (by decide) (Nat.le_of_ble_eq_true rfl) ?_
  intro p e s m below meth c C9 hlk hret hnt hTh hW ls hl
  have hx := C9.1.1
  have hb := C9.1.2.1
  have hl : lv_has ls 4 [(0, .ref (ad 0)), (1, .int p1), (2, .ref (ad 139))] := hl
  unfold f_W_acknowledge at hf
  refine lv_aload_n hx hb d_W_acknowledge_0 rfl (lv_at hl 2 rfl) ?_
  refine lv_iconst (v := 0) hx hb d_W_acknowledge_1 (by decide) ?_
  refine lv_aload_n hx hb d_W_acknowledge_2 rfl (lv_at hl 0 rfl) ?_
  refine lv_iload_n hx hb d_W_acknowledge_3 rfl (lv_at hl 1 rfl) ?_
  obtain ⟨or1, qr1, xr1, vr1⟩ := rd_c_run hf
  refine rd_callVS (k := 0) (As := [.int p1]) (rest := [.int 0, .ref (ad 139)]) lw_EK rd_gd C9 hTh hW (c_K_acknowledge hls p1 qr1) kc_K_acknowledge ki_K_acknowledge ks_K_acknowledge l_W_70 rfl lt_K ce_K rfl ⟨Nat.le_of_ble_eq_true rfl, Nat.le_of_ble_eq_true rfl⟩ ⟨Nat.le_of_ble_eq_true rfl, Nat.le_of_ble_eq_true rfl⟩ hl.1 rfl (Nat.le_of_ble_eq_true rfl) d_W_acknowledge_4 (fun E ce q9 H locs hex hW h1 h2 h3 => ?_) (fun rr MM H locs hp hW => ?_)
  · have hf := xr1 E hex
    by_cases e0 : E = "java/lang/IllegalArgumentException"
    · have hf := rd_t hf e0
      subst e0
      refine rd_caughtP (h := 12) h1 h2 h3 (fun hpl => by rw [hnt]; exact rd_rH (by decide) (by decide) (by decide) (rd_hit hpl C9.1.2.2.2.1 (C9.1.2.2.2.2 _ l_W_13) (hTh.2.2.2.1 _ (List.mem_of_getElem? (i := 0) rfl)).2 h3)) ?_
      refine lv_astore_n (lv' := [(3, .ref q9), (0, .ref (ad 0)), (1, .int p1), (2, .ref (ad 139))]) hx hb d_W_acknowledge_12 rfl hl (by decide) rfl (fun ls hl => ?_)
      refine lv_iconst (v := 1) hx hb d_W_acknowledge_13 (by decide) ?_
      obtain rfl := Option.some.inj hf
      exact rd_iret C9 hlk hret hW ⟨rfl, rfl⟩ (by decide) (by decide) d_W_acknowledge_14
    have hf := rd_f hf e0
    by_cases e1 : E = "java/util/NoSuchElementException"
    · have hf := rd_t hf e1
      subst e1
      refine rd_caughtP (h := 15) h1 h2 h3 (fun hpl => by rw [hnt]; exact rd_rM (by decide) (by decide) (by decide) (rd_miss hpl C9.1.2.2.2.1 (C9.1.2.2.2.2 _ l_W_13) (hTh.2.2.2.2 (_, _) (List.mem_of_getElem? (i := 3) rfl)) h3) (rd_rH (by decide) (by decide) (by decide) (rd_hit hpl C9.1.2.2.2.1 (C9.1.2.2.2.2 _ l_W_15) (hTh.2.2.2.1 _ (List.mem_of_getElem? (i := 8) rfl)).2 h3))) ?_
      refine lv_astore_n (lv' := [(3, .ref q9), (0, .ref (ad 0)), (1, .int p1), (2, .ref (ad 139))]) hx hb d_W_acknowledge_15 rfl hl (by decide) rfl (fun ls hl => ?_)
      refine lv_iconst (v := 2) hx hb d_W_acknowledge_16 (by decide) ?_
      obtain rfl := Option.some.inj hf
      exact rd_iret C9 hlk hret hW ⟨rfl, rfl⟩ (by decide) (by decide) d_W_acknowledge_17
    have hf := rd_f hf e1
    by_cases e2 : E = "java/lang/UnsupportedOperationException"
    · have hf := rd_t hf e2
      subst e2
      refine rd_caughtP (h := 18) h1 h2 h3 (fun hpl => by rw [hnt]; exact rd_rM (by decide) (by decide) (by decide) (rd_miss hpl C9.1.2.2.2.1 (C9.1.2.2.2.2 _ l_W_13) (hTh.2.2.2.2 (_, _) (List.mem_of_getElem? (i := 6) rfl)) h3) (rd_rM (by decide) (by decide) (by decide) (rd_miss hpl C9.1.2.2.2.1 (C9.1.2.2.2.2 _ l_W_15) (hTh.2.2.2.2 (_, _) (List.mem_of_getElem? (i := 7) rfl)) h3) (rd_rH (by decide) (by decide) (by decide) (rd_hit hpl C9.1.2.2.2.1 (C9.1.2.2.2.2 _ l_W_17) (hTh.2.2.2.1 _ (List.mem_of_getElem? (i := 9) rfl)).2 h3)))) ?_
      refine lv_astore_n (lv' := [(3, .ref q9), (0, .ref (ad 0)), (1, .int p1), (2, .ref (ad 139))]) hx hb d_W_acknowledge_18 rfl hl (by decide) rfl (fun ls hl => ?_)
      refine lv_iconst (v := 3) hx hb d_W_acknowledge_19 (by decide) ?_
      obtain rfl := Option.some.inj hf
      exact rd_iret C9 hlk hret hW ⟨rfl, rfl⟩ (by decide) (by decide) d_W_acknowledge_20
    have hf := rd_f hf e2
    by_cases e3 : E = "java/lang/IllegalStateException"
    · have hf := rd_t hf e3
      subst e3
      refine rd_caughtP (h := 21) h1 h2 h3 (fun hpl => by rw [hnt]; exact rd_rM (by decide) (by decide) (by decide) (rd_miss hpl C9.1.2.2.2.1 (C9.1.2.2.2.2 _ l_W_13) (hTh.2.2.2.2 (_, _) (List.mem_of_getElem? (i := 9) rfl)) h3) (rd_rM (by decide) (by decide) (by decide) (rd_miss hpl C9.1.2.2.2.1 (C9.1.2.2.2.2 _ l_W_15) (hTh.2.2.2.2 (_, _) (List.mem_of_getElem? (i := 10) rfl)) h3) (rd_rM (by decide) (by decide) (by decide) (rd_miss hpl C9.1.2.2.2.1 (C9.1.2.2.2.2 _ l_W_17) (hTh.2.2.2.2 (_, _) (List.mem_of_getElem? (i := 11) rfl)) h3) (rd_rH (by decide) (by decide) (by decide) (rd_hit hpl C9.1.2.2.2.1 (C9.1.2.2.2.2 _ l_W_19) (hTh.2.2.2.1 _ (List.mem_of_getElem? (i := 7) rfl)).2 h3))))) ?_
      refine lv_astore_n (lv' := [(3, .ref q9), (0, .ref (ad 0)), (1, .int p1), (2, .ref (ad 139))]) hx hb d_W_acknowledge_21 rfl hl (by decide) rfl (fun ls hl => ?_)
      refine lv_iconst (v := 4) hx hb d_W_acknowledge_22 (by decide) ?_
      obtain rfl := Option.some.inj hf
      exact rd_iret C9 hlk hret hW ⟨rfl, rfl⟩ (by decide) (by decide) d_W_acknowledge_23
    have hf := rd_f hf e3
    exact (rd_nf hf).elim
  obtain ⟨r1, er1, rfl, rfl⟩ := hp
  have hf := vr1 _ er1
  have hW : rd_W D rd_cl (lw_L Ka) ad (rd_A (lw_L Ka) ad s.heap.size) s.heap (rd_pm 117 0 M r1.2) H locs := hW
  refine lv_i2l hx hb d_W_acknowledge_7 rfl ?_
  refine as_out C9 hW (i := 0) (by decide) (show rd_in 0 1 by decide) d_W_acknowledge_8 (fun H locs hW => ?_)
  obtain ⟨M2, hM2, hf⟩ := rd_k_el hf
  rw [← hM2] at hW
  refine lv_goto (tgt := 24) hx hb d_W_acknowledge_9 (by decide) ?_
  refine lv_iconst (v := 0) hx hb d_W_acknowledge_24 (by decide) ?_
  obtain rfl := Option.some.inj hf
  exact rd_iret C9 hlk hret hW ⟨rfl, rfl⟩ (by decide) (by decide) d_W_acknowledge_25
def f_W_balance (M : rd_M) (p1 : Int32) : Option (Int32 × rd_M) :=
  rd_c (f_K_balance (fun k => M (0 + k)) p1) (fun E =>
    if E = "java/lang/IllegalArgumentException" then some (1, M)
    else if E = "java/util/NoSuchElementException" then some (2, M)
    else if E = "java/lang/UnsupportedOperationException" then some (3, M)
    else if E = "java/lang/IllegalStateException" then some (4, M)
    else none) fun r1 =>
  rd_k (rd_dU M 140 0 r1) fun M2 =>
  some (0, M2)
set_option maxRecDepth 100000 in
set_option maxHeartbeats 4000000 in
theorem c_W_balance {l : Launch} (hls : l.stackTraces = false) {D : va_G} {Ka : Nat → ClassId} {ad : Nat → Nat} {M : rd_M} (p1 : Int32)  {o : Int32 × rd_M} (hf : f_W_balance M p1 = some o) :
    rd_MetW l y_W_balance b_W_balance 4 (some .int) [(0, 8, 11, 13), (0, 8, 14, 15), (0, 8, 17, 17), (0, 8, 20, 19)] (9, 153, 1, 6) rd_T rd_ss D rd_cl (rd_ty Ka) (lw_L Ka) ad M [.ref (ad 0), .int p1, .ref (ad 140)] (fun r M1 => r = some (.int o.1) ∧ o.2 = M1) (fun _ => False) := by
  refine rd_bodyW (by decide) (Nat.le_of_ble_eq_true rfl) ?_
  intro p e s m below meth c C9 hlk hret hnt hTh hW ls hl
  have hx := C9.1.1
  have hb := C9.1.2.1
  have hl : lv_has ls 4 [(0, .ref (ad 0)), (1, .int p1), (2, .ref (ad 140))] := hl
  unfold f_W_balance at hf
  refine lv_aload_n hx hb d_W_balance_0 rfl (lv_at hl 2 rfl) ?_
  refine lv_iconst (v := 0) hx hb d_W_balance_1 (by decide) ?_
  refine lv_aload_n hx hb d_W_balance_2 rfl (lv_at hl 0 rfl) ?_
  refine lv_iload_n hx hb d_W_balance_3 rfl (lv_at hl 1 rfl) ?_
  obtain ⟨or1, qr1, xr1, vr1⟩ := rd_c_run hf
  refine rd_callVS (k := 0) (As := [.int p1]) (rest := [.int 0, .ref (ad 140)]) lw_EK rd_gd C9 hTh hW (c_K_balance hls p1 qr1) kc_K_balance ki_K_balance ks_K_balance l_W_73 rfl lt_K ce_K rfl ⟨Nat.le_of_ble_eq_true rfl, Nat.le_of_ble_eq_true rfl⟩ ⟨Nat.le_of_ble_eq_true rfl, Nat.le_of_ble_eq_true rfl⟩ hl.1 rfl (Nat.le_of_ble_eq_true rfl) d_W_balance_4 (fun E ce q9 H locs hex hW h1 h2 h3 => ?_) (fun rr MM H locs hp hW => ?_)
  · have hf := xr1 E hex
    by_cases e0 : E = "java/lang/IllegalArgumentException"
    · have hf := rd_t hf e0
      subst e0
      refine rd_caughtP (h := 11) h1 h2 h3 (fun hpl => by rw [hnt]; exact rd_rH (by decide) (by decide) (by decide) (rd_hit hpl C9.1.2.2.2.1 (C9.1.2.2.2.2 _ l_W_13) (hTh.2.2.2.1 _ (List.mem_of_getElem? (i := 0) rfl)).2 h3)) ?_
      refine lv_astore_n (lv' := [(3, .ref q9), (0, .ref (ad 0)), (1, .int p1), (2, .ref (ad 140))]) hx hb d_W_balance_11 rfl hl (by decide) rfl (fun ls hl => ?_)
      refine lv_iconst (v := 1) hx hb d_W_balance_12 (by decide) ?_
      obtain rfl := Option.some.inj hf
      exact rd_iret C9 hlk hret hW ⟨rfl, rfl⟩ (by decide) (by decide) d_W_balance_13
    have hf := rd_f hf e0
    by_cases e1 : E = "java/util/NoSuchElementException"
    · have hf := rd_t hf e1
      subst e1
      refine rd_caughtP (h := 14) h1 h2 h3 (fun hpl => by rw [hnt]; exact rd_rM (by decide) (by decide) (by decide) (rd_miss hpl C9.1.2.2.2.1 (C9.1.2.2.2.2 _ l_W_13) (hTh.2.2.2.2 (_, _) (List.mem_of_getElem? (i := 3) rfl)) h3) (rd_rH (by decide) (by decide) (by decide) (rd_hit hpl C9.1.2.2.2.1 (C9.1.2.2.2.2 _ l_W_15) (hTh.2.2.2.1 _ (List.mem_of_getElem? (i := 8) rfl)).2 h3))) ?_
      refine lv_astore_n (lv' := [(3, .ref q9), (0, .ref (ad 0)), (1, .int p1), (2, .ref (ad 140))]) hx hb d_W_balance_14 rfl hl (by decide) rfl (fun ls hl => ?_)
      refine lv_iconst (v := 2) hx hb d_W_balance_15 (by decide) ?_
      obtain rfl := Option.some.inj hf
      exact rd_iret C9 hlk hret hW ⟨rfl, rfl⟩ (by decide) (by decide) d_W_balance_16
    have hf := rd_f hf e1
    by_cases e2 : E = "java/lang/UnsupportedOperationException"
    · have hf := rd_t hf e2
      subst e2
      refine rd_caughtP (h := 17) h1 h2 h3 (fun hpl => by rw [hnt]; exact rd_rM (by decide) (by decide) (by decide) (rd_miss hpl C9.1.2.2.2.1 (C9.1.2.2.2.2 _ l_W_13) (hTh.2.2.2.2 (_, _) (List.mem_of_getElem? (i := 6) rfl)) h3) (rd_rM (by decide) (by decide) (by decide) (rd_miss hpl C9.1.2.2.2.1 (C9.1.2.2.2.2 _ l_W_15) (hTh.2.2.2.2 (_, _) (List.mem_of_getElem? (i := 7) rfl)) h3) (rd_rH (by decide) (by decide) (by decide) (rd_hit hpl C9.1.2.2.2.1 (C9.1.2.2.2.2 _ l_W_17) (hTh.2.2.2.1 _ (List.mem_of_getElem? (i := 9) rfl)).2 h3)))) ?_
      refine lv_astore_n (lv' := [(3, .ref q9), (0, .ref (ad 0)), (1, .int p1), (2, .ref (ad 140))]) hx hb d_W_balance_17 rfl hl (by decide) rfl (fun ls hl => ?_)
      refine lv_iconst (v := 3) hx hb d_W_balance_18 (by decide) ?_
      obtain rfl := Option.some.inj hf
      exact rd_iret C9 hlk hret hW ⟨rfl, rfl⟩ (by decide) (by decide) d_W_balance_19
    have hf := rd_f hf e2
    by_cases e3 : E = "java/lang/IllegalStateException"
    · have hf := rd_t hf e3
      subst e3
      refine rd_caughtP (h := 20) h1 h2 h3 (fun hpl => by rw [hnt]; exact rd_rM (by decide) (by decide) (by decide) (rd_miss hpl C9.1.2.2.2.1 (C9.1.2.2.2.2 _ l_W_13) (hTh.2.2.2.2 (_, _) (List.mem_of_getElem? (i := 9) rfl)) h3) (rd_rM (by decide) (by decide) (by decide) (rd_miss hpl C9.1.2.2.2.1 (C9.1.2.2.2.2 _ l_W_15) (hTh.2.2.2.2 (_, _) (List.mem_of_getElem? (i := 10) rfl)) h3) (rd_rM (by decide) (by decide) (by decide) (rd_miss hpl C9.1.2.2.2.1 (C9.1.2.2.2.2 _ l_W_17) (hTh.2.2.2.2 (_, _) (List.mem_of_getElem? (i := 11) rfl)) h3) (rd_rH (by decide) (by decide) (by decide) (rd_hit hpl C9.1.2.2.2.1 (C9.1.2.2.2.2 _ l_W_19) (hTh.2.2.2.1 _ (List.mem_of_getElem? (i := 7) rfl)).2 h3))))) ?_
      refine lv_astore_n (lv' := [(3, .ref q9), (0, .ref (ad 0)), (1, .int p1), (2, .ref (ad 140))]) hx hb d_W_balance_20 rfl hl (by decide) rfl (fun ls hl => ?_)
      refine lv_iconst (v := 4) hx hb d_W_balance_21 (by decide) ?_
      obtain rfl := Option.some.inj hf
      exact rd_iret C9 hlk hret hW ⟨rfl, rfl⟩ (by decide) (by decide) d_W_balance_22
    have hf := rd_f hf e3
    exact (rd_nf hf).elim
  obtain ⟨r1, er1, rfl, rfl⟩ := hp
  have hf := vr1 _ er1
  rw [rd_pm_self] at hW
  refine as_outD C9 hW (i := 0) (by decide) (show rd_in 0 1 by decide) d_W_balance_7 (fun H locs hW => ?_)
  obtain ⟨M2, hM2, hf⟩ := rd_k_el hf
  rw [← hM2] at hW
  refine lv_goto (tgt := 23) hx hb d_W_balance_8 (by decide) ?_
  refine lv_iconst (v := 0) hx hb d_W_balance_23 (by decide) ?_
  obtain rfl := Option.some.inj hf
  exact rd_iret C9 hlk hret hW ⟨rfl, rfl⟩ (by decide) (by decide) d_W_balance_24
def f_W_paid (M : rd_M) (p1 : Int32) (p2 : Int32) : Option (Int32 × rd_M) :=
  rd_c (f_K_paid (fun k => M (0 + k)) p1 p2) (fun E =>
    if E = "java/lang/IllegalArgumentException" then some (1, M)
    else if E = "java/util/NoSuchElementException" then some (2, M)
    else if E = "java/lang/UnsupportedOperationException" then some (3, M)
    else if E = "java/lang/IllegalStateException" then some (4, M)
    else none) fun r1 =>
  rd_k (rd_dU M 140 0 r1) fun M2 =>
  some (0, M2)
set_option maxRecDepth 100000 in
set_option maxHeartbeats 4000000 in
theorem c_W_paid {l : Launch} (hls : l.stackTraces = false) {D : va_G} {Ka : Nat → ClassId} {ad : Nat → Nat} {M : rd_M} (p1 : Int32) (p2 : Int32)  {o : Int32 × rd_M} (hf : f_W_paid M p1 p2 = some o) :
    rd_MetW l y_W_paid b_W_paid 5 (some .int) [(0, 9, 12, 13), (0, 9, 16, 15), (0, 9, 20, 17), (0, 9, 24, 19)] (9, 154, 2, 12) rd_T rd_ss D rd_cl (rd_ty Ka) (lw_L Ka) ad M [.ref (ad 0), .int p1, .int p2, .ref (ad 140)] (fun r M1 => r = some (.int o.1) ∧ o.2 = M1) (fun _ => False) := by
  refine rd_bodyW (by decide) (Nat.le_of_ble_eq_true rfl) ?_
  intro p e s m below meth c C9 hlk hret hnt hTh hW ls hl
  have hx := C9.1.1
  have hb := C9.1.2.1
  have hl : lv_has ls 5 [(0, .ref (ad 0)), (1, .int p1), (2, .int p2), (3, .ref (ad 140))] := hl
  unfold f_W_paid at hf
  refine lv_aload_n hx hb d_W_paid_0 rfl (lv_at hl 3 rfl) ?_
  refine lv_iconst (v := 0) hx hb d_W_paid_1 (by decide) ?_
  refine lv_aload_n hx hb d_W_paid_2 rfl (lv_at hl 0 rfl) ?_
  refine lv_iload_n hx hb d_W_paid_3 rfl (lv_at hl 1 rfl) ?_
  refine lv_iload_n hx hb d_W_paid_4 rfl (lv_at hl 2 rfl) ?_
  obtain ⟨or1, qr1, xr1, vr1⟩ := rd_c_run hf
  refine rd_callVS (k := 0) (As := [.int p1, .int p2]) (rest := [.int 0, .ref (ad 140)]) lw_EK rd_gd C9 hTh hW (c_K_paid hls p1 p2 qr1) kc_K_paid ki_K_paid ks_K_paid l_W_77 rfl lt_K ce_K rfl ⟨Nat.le_of_ble_eq_true rfl, Nat.le_of_ble_eq_true rfl⟩ ⟨Nat.le_of_ble_eq_true rfl, Nat.le_of_ble_eq_true rfl⟩ hl.1 rfl (Nat.le_of_ble_eq_true rfl) d_W_paid_5 (fun E ce q9 H locs hex hW h1 h2 h3 => ?_) (fun rr MM H locs hp hW => ?_)
  · have hf := xr1 E hex
    by_cases e0 : E = "java/lang/IllegalArgumentException"
    · have hf := rd_t hf e0
      subst e0
      refine rd_caughtP (h := 12) h1 h2 h3 (fun hpl => by rw [hnt]; exact rd_rH (by decide) (by decide) (by decide) (rd_hit hpl C9.1.2.2.2.1 (C9.1.2.2.2.2 _ l_W_13) (hTh.2.2.2.1 _ (List.mem_of_getElem? (i := 0) rfl)).2 h3)) ?_
      refine lv_astore (lv' := [(4, .ref q9), (0, .ref (ad 0)), (1, .int p1), (2, .int p2), (3, .ref (ad 140))]) hx hb d_W_paid_12 hl (by decide) rfl (fun ls hl => ?_)
      refine lv_iconst (v := 1) hx hb d_W_paid_14 (by decide) ?_
      obtain rfl := Option.some.inj hf
      exact rd_iret C9 hlk hret hW ⟨rfl, rfl⟩ (by decide) (by decide) d_W_paid_15
    have hf := rd_f hf e0
    by_cases e1 : E = "java/util/NoSuchElementException"
    · have hf := rd_t hf e1
      subst e1
      refine rd_caughtP (h := 16) h1 h2 h3 (fun hpl => by rw [hnt]; exact rd_rM (by decide) (by decide) (by decide) (rd_miss hpl C9.1.2.2.2.1 (C9.1.2.2.2.2 _ l_W_13) (hTh.2.2.2.2 (_, _) (List.mem_of_getElem? (i := 3) rfl)) h3) (rd_rH (by decide) (by decide) (by decide) (rd_hit hpl C9.1.2.2.2.1 (C9.1.2.2.2.2 _ l_W_15) (hTh.2.2.2.1 _ (List.mem_of_getElem? (i := 8) rfl)).2 h3))) ?_
      refine lv_astore (lv' := [(4, .ref q9), (0, .ref (ad 0)), (1, .int p1), (2, .int p2), (3, .ref (ad 140))]) hx hb d_W_paid_16 hl (by decide) rfl (fun ls hl => ?_)
      refine lv_iconst (v := 2) hx hb d_W_paid_18 (by decide) ?_
      obtain rfl := Option.some.inj hf
      exact rd_iret C9 hlk hret hW ⟨rfl, rfl⟩ (by decide) (by decide) d_W_paid_19
    have hf := rd_f hf e1
    by_cases e2 : E = "java/lang/UnsupportedOperationException"
    · have hf := rd_t hf e2
      subst e2
      refine rd_caughtP (h := 20) h1 h2 h3 (fun hpl => by rw [hnt]; exact rd_rM (by decide) (by decide) (by decide) (rd_miss hpl C9.1.2.2.2.1 (C9.1.2.2.2.2 _ l_W_13) (hTh.2.2.2.2 (_, _) (List.mem_of_getElem? (i := 6) rfl)) h3) (rd_rM (by decide) (by decide) (by decide) (rd_miss hpl C9.1.2.2.2.1 (C9.1.2.2.2.2 _ l_W_15) (hTh.2.2.2.2 (_, _) (List.mem_of_getElem? (i := 7) rfl)) h3) (rd_rH (by decide) (by decide) (by decide) (rd_hit hpl C9.1.2.2.2.1 (C9.1.2.2.2.2 _ l_W_17) (hTh.2.2.2.1 _ (List.mem_of_getElem? (i := 9) rfl)).2 h3)))) ?_
      refine lv_astore (lv' := [(4, .ref q9), (0, .ref (ad 0)), (1, .int p1), (2, .int p2), (3, .ref (ad 140))]) hx hb d_W_paid_20 hl (by decide) rfl (fun ls hl => ?_)
      refine lv_iconst (v := 3) hx hb d_W_paid_22 (by decide) ?_
      obtain rfl := Option.some.inj hf
      exact rd_iret C9 hlk hret hW ⟨rfl, rfl⟩ (by decide) (by decide) d_W_paid_23
    have hf := rd_f hf e2
    by_cases e3 : E = "java/lang/IllegalStateException"
    · have hf := rd_t hf e3
      subst e3
      refine rd_caughtP (h := 24) h1 h2 h3 (fun hpl => by rw [hnt]; exact rd_rM (by decide) (by decide) (by decide) (rd_miss hpl C9.1.2.2.2.1 (C9.1.2.2.2.2 _ l_W_13) (hTh.2.2.2.2 (_, _) (List.mem_of_getElem? (i := 9) rfl)) h3) (rd_rM (by decide) (by decide) (by decide) (rd_miss hpl C9.1.2.2.2.1 (C9.1.2.2.2.2 _ l_W_15) (hTh.2.2.2.2 (_, _) (List.mem_of_getElem? (i := 10) rfl)) h3) (rd_rM (by decide) (by decide) (by decide) (rd_miss hpl C9.1.2.2.2.1 (C9.1.2.2.2.2 _ l_W_17) (hTh.2.2.2.2 (_, _) (List.mem_of_getElem? (i := 11) rfl)) h3) (rd_rH (by decide) (by decide) (by decide) (rd_hit hpl C9.1.2.2.2.1 (C9.1.2.2.2.2 _ l_W_19) (hTh.2.2.2.1 _ (List.mem_of_getElem? (i := 7) rfl)).2 h3))))) ?_
      refine lv_astore (lv' := [(4, .ref q9), (0, .ref (ad 0)), (1, .int p1), (2, .int p2), (3, .ref (ad 140))]) hx hb d_W_paid_24 hl (by decide) rfl (fun ls hl => ?_)
      refine lv_iconst (v := 4) hx hb d_W_paid_26 (by decide) ?_
      obtain rfl := Option.some.inj hf
      exact rd_iret C9 hlk hret hW ⟨rfl, rfl⟩ (by decide) (by decide) d_W_paid_27
    have hf := rd_f hf e3
    exact (rd_nf hf).elim
  obtain ⟨r1, er1, rfl, rfl⟩ := hp
  have hf := vr1 _ er1
  rw [rd_pm_self] at hW
  refine as_outD C9 hW (i := 0) (by decide) (show rd_in 0 1 by decide) d_W_paid_8 (fun H locs hW => ?_)
  obtain ⟨M2, hM2, hf⟩ := rd_k_el hf
  rw [← hM2] at hW
  refine lv_goto (tgt := 28) hx hb d_W_paid_9 (by decide) ?_
  refine lv_iconst (v := 0) hx hb d_W_paid_28 (by decide) ?_
  obtain rfl := Option.some.inj hf
  exact rd_iret C9 hlk hret hW ⟨rfl, rfl⟩ (by decide) (by decide) d_W_paid_29
def f_W_domain (M : rd_M) (p1 : Int32) (p2 : Int32) : Option (Int32 × rd_M) :=
  rd_c (f_K_domain (fun k => M (0 + k)) p1 p2) (fun E =>
    if E = "java/lang/IllegalArgumentException" then some (1, M)
    else if E = "java/util/NoSuchElementException" then some (2, M)
    else if E = "java/lang/UnsupportedOperationException" then some (3, M)
    else if E = "java/lang/IllegalStateException" then some (4, M)
    else none) fun r1 =>
  rd_k (rd_lU M 139 0 r1.toInt64) fun M2 =>
  some (0, M2)
set_option maxRecDepth 100000 in
set_option maxHeartbeats 4000000 in
theorem c_W_domain {l : Launch} (hls : l.stackTraces = false) {D : va_G} {Ka : Nat → ClassId} {ad : Nat → Nat} {M : rd_M} (p1 : Int32) (p2 : Int32)  {o : Int32 × rd_M} (hf : f_W_domain M p1 p2 = some o) :
    rd_MetW l y_W_domain b_W_domain 5 (some .int) [(0, 10, 13, 13), (0, 10, 17, 15), (0, 10, 21, 17), (0, 10, 25, 19)] (9, 155, 3, 18) rd_T rd_ss D rd_cl (rd_ty Ka) (lw_L Ka) ad M [.ref (ad 0), .int p1, .int p2, .ref (ad 139)] (fun r M1 => r = some (.int o.1) ∧ o.2 = M1) (fun _ => False) := by
  refine rd_bodyW (by decide) (Nat.le_of_ble_eq_true rfl) ?_
  intro p e s m below meth c C9 hlk hret hnt hTh hW ls hl
  have hx := C9.1.1
  have hb := C9.1.2.1
  have hl : lv_has ls 5 [(0, .ref (ad 0)), (1, .int p1), (2, .int p2), (3, .ref (ad 139))] := hl
  unfold f_W_domain at hf
  refine lv_aload_n hx hb d_W_domain_0 rfl (lv_at hl 3 rfl) ?_
  refine lv_iconst (v := 0) hx hb d_W_domain_1 (by decide) ?_
  refine lv_aload_n hx hb d_W_domain_2 rfl (lv_at hl 0 rfl) ?_
  refine lv_iload_n hx hb d_W_domain_3 rfl (lv_at hl 1 rfl) ?_
  refine lv_iload_n hx hb d_W_domain_4 rfl (lv_at hl 2 rfl) ?_
  obtain ⟨or1, qr1, xr1, vr1⟩ := rd_c_run hf
  refine rd_callVS (k := 0) (As := [.int p1, .int p2]) (rest := [.int 0, .ref (ad 139)]) lw_EK rd_gd C9 hTh hW (c_K_domain hls p1 p2 qr1) kc_K_domain ki_K_domain ks_K_domain l_W_81 rfl lt_K ce_K rfl ⟨Nat.le_of_ble_eq_true rfl, Nat.le_of_ble_eq_true rfl⟩ ⟨Nat.le_of_ble_eq_true rfl, Nat.le_of_ble_eq_true rfl⟩ hl.1 rfl (Nat.le_of_ble_eq_true rfl) d_W_domain_5 (fun E ce q9 H locs hex hW h1 h2 h3 => ?_) (fun rr MM H locs hp hW => ?_)
  · have hf := xr1 E hex
    by_cases e0 : E = "java/lang/IllegalArgumentException"
    · have hf := rd_t hf e0
      subst e0
      refine rd_caughtP (h := 13) h1 h2 h3 (fun hpl => by rw [hnt]; exact rd_rH (by decide) (by decide) (by decide) (rd_hit hpl C9.1.2.2.2.1 (C9.1.2.2.2.2 _ l_W_13) (hTh.2.2.2.1 _ (List.mem_of_getElem? (i := 0) rfl)).2 h3)) ?_
      refine lv_astore (lv' := [(4, .ref q9), (0, .ref (ad 0)), (1, .int p1), (2, .int p2), (3, .ref (ad 139))]) hx hb d_W_domain_13 hl (by decide) rfl (fun ls hl => ?_)
      refine lv_iconst (v := 1) hx hb d_W_domain_15 (by decide) ?_
      obtain rfl := Option.some.inj hf
      exact rd_iret C9 hlk hret hW ⟨rfl, rfl⟩ (by decide) (by decide) d_W_domain_16
    have hf := rd_f hf e0
    by_cases e1 : E = "java/util/NoSuchElementException"
    · have hf := rd_t hf e1
      subst e1
      refine rd_caughtP (h := 17) h1 h2 h3 (fun hpl => by rw [hnt]; exact rd_rM (by decide) (by decide) (by decide) (rd_miss hpl C9.1.2.2.2.1 (C9.1.2.2.2.2 _ l_W_13) (hTh.2.2.2.2 (_, _) (List.mem_of_getElem? (i := 3) rfl)) h3) (rd_rH (by decide) (by decide) (by decide) (rd_hit hpl C9.1.2.2.2.1 (C9.1.2.2.2.2 _ l_W_15) (hTh.2.2.2.1 _ (List.mem_of_getElem? (i := 8) rfl)).2 h3))) ?_
      refine lv_astore (lv' := [(4, .ref q9), (0, .ref (ad 0)), (1, .int p1), (2, .int p2), (3, .ref (ad 139))]) hx hb d_W_domain_17 hl (by decide) rfl (fun ls hl => ?_)
      refine lv_iconst (v := 2) hx hb d_W_domain_19 (by decide) ?_
      obtain rfl := Option.some.inj hf
      exact rd_iret C9 hlk hret hW ⟨rfl, rfl⟩ (by decide) (by decide) d_W_domain_20
    have hf := rd_f hf e1
    by_cases e2 : E = "java/lang/UnsupportedOperationException"
    · have hf := rd_t hf e2
      subst e2
      refine rd_caughtP (h := 21) h1 h2 h3 (fun hpl => by rw [hnt]; exact rd_rM (by decide) (by decide) (by decide) (rd_miss hpl C9.1.2.2.2.1 (C9.1.2.2.2.2 _ l_W_13) (hTh.2.2.2.2 (_, _) (List.mem_of_getElem? (i := 6) rfl)) h3) (rd_rM (by decide) (by decide) (by decide) (rd_miss hpl C9.1.2.2.2.1 (C9.1.2.2.2.2 _ l_W_15) (hTh.2.2.2.2 (_, _) (List.mem_of_getElem? (i := 7) rfl)) h3) (rd_rH (by decide) (by decide) (by decide) (rd_hit hpl C9.1.2.2.2.1 (C9.1.2.2.2.2 _ l_W_17) (hTh.2.2.2.1 _ (List.mem_of_getElem? (i := 9) rfl)).2 h3)))) ?_
      refine lv_astore (lv' := [(4, .ref q9), (0, .ref (ad 0)), (1, .int p1), (2, .int p2), (3, .ref (ad 139))]) hx hb d_W_domain_21 hl (by decide) rfl (fun ls hl => ?_)
      refine lv_iconst (v := 3) hx hb d_W_domain_23 (by decide) ?_
      obtain rfl := Option.some.inj hf
      exact rd_iret C9 hlk hret hW ⟨rfl, rfl⟩ (by decide) (by decide) d_W_domain_24
    have hf := rd_f hf e2
    by_cases e3 : E = "java/lang/IllegalStateException"
    · have hf := rd_t hf e3
      subst e3
      refine rd_caughtP (h := 25) h1 h2 h3 (fun hpl => by rw [hnt]; exact rd_rM (by decide) (by decide) (by decide) (rd_miss hpl C9.1.2.2.2.1 (C9.1.2.2.2.2 _ l_W_13) (hTh.2.2.2.2 (_, _) (List.mem_of_getElem? (i := 9) rfl)) h3) (rd_rM (by decide) (by decide) (by decide) (rd_miss hpl C9.1.2.2.2.1 (C9.1.2.2.2.2 _ l_W_15) (hTh.2.2.2.2 (_, _) (List.mem_of_getElem? (i := 10) rfl)) h3) (rd_rM (by decide) (by decide) (by decide) (rd_miss hpl C9.1.2.2.2.1 (C9.1.2.2.2.2 _ l_W_17) (hTh.2.2.2.2 (_, _) (List.mem_of_getElem? (i := 11) rfl)) h3) (rd_rH (by decide) (by decide) (by decide) (rd_hit hpl C9.1.2.2.2.1 (C9.1.2.2.2.2 _ l_W_19) (hTh.2.2.2.1 _ (List.mem_of_getElem? (i := 7) rfl)).2 h3))))) ?_
      refine lv_astore (lv' := [(4, .ref q9), (0, .ref (ad 0)), (1, .int p1), (2, .int p2), (3, .ref (ad 139))]) hx hb d_W_domain_25 hl (by decide) rfl (fun ls hl => ?_)
      refine lv_iconst (v := 4) hx hb d_W_domain_27 (by decide) ?_
      obtain rfl := Option.some.inj hf
      exact rd_iret C9 hlk hret hW ⟨rfl, rfl⟩ (by decide) (by decide) d_W_domain_28
    have hf := rd_f hf e3
    exact (rd_nf hf).elim
  obtain ⟨r1, er1, rfl, rfl⟩ := hp
  have hf := vr1 _ er1
  rw [rd_pm_self] at hW
  refine lv_i2l hx hb d_W_domain_8 rfl ?_
  refine as_out C9 hW (i := 0) (by decide) (show rd_in 0 1 by decide) d_W_domain_9 (fun H locs hW => ?_)
  obtain ⟨M2, hM2, hf⟩ := rd_k_el hf
  rw [← hM2] at hW
  refine lv_goto (tgt := 29) hx hb d_W_domain_10 (by decide) ?_
  refine lv_iconst (v := 0) hx hb d_W_domain_29 (by decide) ?_
  obtain rfl := Option.some.inj hf
  exact rd_iret C9 hlk hret hW ⟨rfl, rfl⟩ (by decide) (by decide) d_W_domain_30
def f_W_thing (M : rd_M) (p1 : Int32) (p2 : Int32) : Option (Int32 × rd_M) :=
  rd_c (f_K_thing (fun k => M (0 + k)) p1 p2) (fun E =>
    if E = "java/lang/IllegalArgumentException" then some (1, M)
    else if E = "java/util/NoSuchElementException" then some (2, M)
    else if E = "java/lang/UnsupportedOperationException" then some (3, M)
    else if E = "java/lang/IllegalStateException" then some (4, M)
    else none) fun r1 =>
  rd_k (rd_lU M 139 0 r1.toInt64) fun M2 =>
  some (0, M2)
set_option maxRecDepth 100000 in
set_option maxHeartbeats 4000000 in
theorem c_W_thing {l : Launch} (hls : l.stackTraces = false) {D : va_G} {Ka : Nat → ClassId} {ad : Nat → Nat} {M : rd_M} (p1 : Int32) (p2 : Int32)  {o : Int32 × rd_M} (hf : f_W_thing M p1 p2 = some o) :
    rd_MetW l y_W_thing b_W_thing 5 (some .int) [(0, 10, 13, 13), (0, 10, 17, 15), (0, 10, 21, 17), (0, 10, 25, 19)] (8, 137, 3, 18) rd_T rd_ss D rd_cl (rd_ty Ka) (lw_L Ka) ad M [.ref (ad 0), .int p1, .int p2, .ref (ad 139)] (fun r M1 => r = some (.int o.1) ∧ o.2 = M1) (fun _ => False) := by
  refine rd_bodyW (by decide) (Nat.le_of_ble_eq_true rfl) ?_
  intro p e s m below meth c C9 hlk hret hnt hTh hW ls hl
  have hx := C9.1.1
  have hb := C9.1.2.1
  have hl : lv_has ls 5 [(0, .ref (ad 0)), (1, .int p1), (2, .int p2), (3, .ref (ad 139))] := hl
  unfold f_W_thing at hf
  refine lv_aload_n hx hb d_W_thing_0 rfl (lv_at hl 3 rfl) ?_
  refine lv_iconst (v := 0) hx hb d_W_thing_1 (by decide) ?_
  refine lv_aload_n hx hb d_W_thing_2 rfl (lv_at hl 0 rfl) ?_
  refine lv_iload_n hx hb d_W_thing_3 rfl (lv_at hl 1 rfl) ?_
  refine lv_iload_n hx hb d_W_thing_4 rfl (lv_at hl 2 rfl) ?_
  obtain ⟨or1, qr1, xr1, vr1⟩ := rd_c_run hf
  refine rd_callVS (k := 0) (As := [.int p1, .int p2]) (rest := [.int 0, .ref (ad 139)]) lw_EK rd_gd C9 hTh hW (c_K_thing hls p1 p2 qr1) kc_K_thing ki_K_thing ks_K_thing l_W_84 rfl lt_K ce_K rfl ⟨Nat.le_of_ble_eq_true rfl, Nat.le_of_ble_eq_true rfl⟩ ⟨Nat.le_of_ble_eq_true rfl, Nat.le_of_ble_eq_true rfl⟩ hl.1 rfl (Nat.le_of_ble_eq_true rfl) d_W_thing_5 (fun E ce q9 H locs hex hW h1 h2 h3 => ?_) (fun rr MM H locs hp hW => ?_)
  · have hf := xr1 E hex
    by_cases e0 : E = "java/lang/IllegalArgumentException"
    · have hf := rd_t hf e0
      subst e0
      refine rd_caughtP (h := 13) h1 h2 h3 (fun hpl => by rw [hnt]; exact rd_rH (by decide) (by decide) (by decide) (rd_hit hpl C9.1.2.2.2.1 (C9.1.2.2.2.2 _ l_W_13) (hTh.2.2.2.1 _ (List.mem_of_getElem? (i := 0) rfl)).2 h3)) ?_
      refine lv_astore (lv' := [(4, .ref q9), (0, .ref (ad 0)), (1, .int p1), (2, .int p2), (3, .ref (ad 139))]) hx hb d_W_thing_13 hl (by decide) rfl (fun ls hl => ?_)
      refine lv_iconst (v := 1) hx hb d_W_thing_15 (by decide) ?_
      obtain rfl := Option.some.inj hf
      exact rd_iret C9 hlk hret hW ⟨rfl, rfl⟩ (by decide) (by decide) d_W_thing_16
    have hf := rd_f hf e0
    by_cases e1 : E = "java/util/NoSuchElementException"
    · have hf := rd_t hf e1
      subst e1
      refine rd_caughtP (h := 17) h1 h2 h3 (fun hpl => by rw [hnt]; exact rd_rM (by decide) (by decide) (by decide) (rd_miss hpl C9.1.2.2.2.1 (C9.1.2.2.2.2 _ l_W_13) (hTh.2.2.2.2 (_, _) (List.mem_of_getElem? (i := 3) rfl)) h3) (rd_rH (by decide) (by decide) (by decide) (rd_hit hpl C9.1.2.2.2.1 (C9.1.2.2.2.2 _ l_W_15) (hTh.2.2.2.1 _ (List.mem_of_getElem? (i := 8) rfl)).2 h3))) ?_
      refine lv_astore (lv' := [(4, .ref q9), (0, .ref (ad 0)), (1, .int p1), (2, .int p2), (3, .ref (ad 139))]) hx hb d_W_thing_17 hl (by decide) rfl (fun ls hl => ?_)
      refine lv_iconst (v := 2) hx hb d_W_thing_19 (by decide) ?_
      obtain rfl := Option.some.inj hf
      exact rd_iret C9 hlk hret hW ⟨rfl, rfl⟩ (by decide) (by decide) d_W_thing_20
    have hf := rd_f hf e1
    by_cases e2 : E = "java/lang/UnsupportedOperationException"
    · have hf := rd_t hf e2
      subst e2
      refine rd_caughtP (h := 21) h1 h2 h3 (fun hpl => by rw [hnt]; exact rd_rM (by decide) (by decide) (by decide) (rd_miss hpl C9.1.2.2.2.1 (C9.1.2.2.2.2 _ l_W_13) (hTh.2.2.2.2 (_, _) (List.mem_of_getElem? (i := 6) rfl)) h3) (rd_rM (by decide) (by decide) (by decide) (rd_miss hpl C9.1.2.2.2.1 (C9.1.2.2.2.2 _ l_W_15) (hTh.2.2.2.2 (_, _) (List.mem_of_getElem? (i := 7) rfl)) h3) (rd_rH (by decide) (by decide) (by decide) (rd_hit hpl C9.1.2.2.2.1 (C9.1.2.2.2.2 _ l_W_17) (hTh.2.2.2.1 _ (List.mem_of_getElem? (i := 9) rfl)).2 h3)))) ?_
      refine lv_astore (lv' := [(4, .ref q9), (0, .ref (ad 0)), (1, .int p1), (2, .int p2), (3, .ref (ad 139))]) hx hb d_W_thing_21 hl (by decide) rfl (fun ls hl => ?_)
      refine lv_iconst (v := 3) hx hb d_W_thing_23 (by decide) ?_
      obtain rfl := Option.some.inj hf
      exact rd_iret C9 hlk hret hW ⟨rfl, rfl⟩ (by decide) (by decide) d_W_thing_24
    have hf := rd_f hf e2
    by_cases e3 : E = "java/lang/IllegalStateException"
    · have hf := rd_t hf e3
      subst e3
      refine rd_caughtP (h := 25) h1 h2 h3 (fun hpl => by rw [hnt]; exact rd_rM (by decide) (by decide) (by decide) (rd_miss hpl C9.1.2.2.2.1 (C9.1.2.2.2.2 _ l_W_13) (hTh.2.2.2.2 (_, _) (List.mem_of_getElem? (i := 9) rfl)) h3) (rd_rM (by decide) (by decide) (by decide) (rd_miss hpl C9.1.2.2.2.1 (C9.1.2.2.2.2 _ l_W_15) (hTh.2.2.2.2 (_, _) (List.mem_of_getElem? (i := 10) rfl)) h3) (rd_rM (by decide) (by decide) (by decide) (rd_miss hpl C9.1.2.2.2.1 (C9.1.2.2.2.2 _ l_W_17) (hTh.2.2.2.2 (_, _) (List.mem_of_getElem? (i := 11) rfl)) h3) (rd_rH (by decide) (by decide) (by decide) (rd_hit hpl C9.1.2.2.2.1 (C9.1.2.2.2.2 _ l_W_19) (hTh.2.2.2.1 _ (List.mem_of_getElem? (i := 7) rfl)).2 h3))))) ?_
      refine lv_astore (lv' := [(4, .ref q9), (0, .ref (ad 0)), (1, .int p1), (2, .int p2), (3, .ref (ad 139))]) hx hb d_W_thing_25 hl (by decide) rfl (fun ls hl => ?_)
      refine lv_iconst (v := 4) hx hb d_W_thing_27 (by decide) ?_
      obtain rfl := Option.some.inj hf
      exact rd_iret C9 hlk hret hW ⟨rfl, rfl⟩ (by decide) (by decide) d_W_thing_28
    have hf := rd_f hf e3
    exact (rd_nf hf).elim
  obtain ⟨r1, er1, rfl, rfl⟩ := hp
  have hf := vr1 _ er1
  rw [rd_pm_self] at hW
  refine lv_i2l hx hb d_W_thing_8 rfl ?_
  refine as_out C9 hW (i := 0) (by decide) (show rd_in 0 1 by decide) d_W_thing_9 (fun H locs hW => ?_)
  obtain ⟨M2, hM2, hf⟩ := rd_k_el hf
  rw [← hM2] at hW
  refine lv_goto (tgt := 29) hx hb d_W_thing_10 (by decide) ?_
  refine lv_iconst (v := 0) hx hb d_W_thing_29 (by decide) ?_
  obtain rfl := Option.some.inj hf
  exact rd_iret C9 hlk hret hW ⟨rfl, rfl⟩ (by decide) (by decide) d_W_thing_30
def f_W_zone (M : rd_M) (p1 : Int32) : Option (Int32 × rd_M) :=
  rd_c (f_K_zone (fun k => M (0 + k)) p1) (fun E =>
    if E = "java/lang/IllegalArgumentException" then some (1, M)
    else if E = "java/util/NoSuchElementException" then some (2, M)
    else if E = "java/lang/UnsupportedOperationException" then some (3, M)
    else if E = "java/lang/IllegalStateException" then some (4, M)
    else none) fun r1 =>
  rd_k (rd_lU M 139 0 r1.toInt64) fun M2 =>
  some (0, M2)
set_option maxRecDepth 100000 in
set_option maxHeartbeats 4000000 in
theorem c_W_zone {l : Launch} (hls : l.stackTraces = false) {D : va_G} {Ka : Nat → ClassId} {ad : Nat → Nat} {M : rd_M} (p1 : Int32)  {o : Int32 × rd_M} (hf : f_W_zone M p1 = some o) :
    rd_MetW l y_W_zone b_W_zone 4 (some .int) [(0, 9, 12, 13), (0, 9, 15, 15), (0, 9, 18, 17), (0, 9, 21, 19)] (7, 161, 1, 6) rd_T rd_ss D rd_cl (rd_ty Ka) (lw_L Ka) ad M [.ref (ad 0), .int p1, .ref (ad 139)] (fun r M1 => r = some (.int o.1) ∧ o.2 = M1) (fun _ => False) := by
  refine rd_bodyW (by decide) (Nat.le_of_ble_eq_true rfl) ?_
  intro p e s m below meth c C9 hlk hret hnt hTh hW ls hl
  have hx := C9.1.1
  have hb := C9.1.2.1
  have hl : lv_has ls 4 [(0, .ref (ad 0)), (1, .int p1), (2, .ref (ad 139))] := hl
  unfold f_W_zone at hf
  refine lv_aload_n hx hb d_W_zone_0 rfl (lv_at hl 2 rfl) ?_
  refine lv_iconst (v := 0) hx hb d_W_zone_1 (by decide) ?_
  refine lv_aload_n hx hb d_W_zone_2 rfl (lv_at hl 0 rfl) ?_
  refine lv_iload_n hx hb d_W_zone_3 rfl (lv_at hl 1 rfl) ?_
  obtain ⟨or1, qr1, xr1, vr1⟩ := rd_c_run hf
  refine rd_callVS (k := 0) (As := [.int p1]) (rest := [.int 0, .ref (ad 139)]) lw_EK rd_gd C9 hTh hW (c_K_zone hls p1 qr1) kc_K_zone ki_K_zone ks_K_zone l_W_87 rfl lt_K ce_K rfl ⟨Nat.le_of_ble_eq_true rfl, Nat.le_of_ble_eq_true rfl⟩ ⟨Nat.le_of_ble_eq_true rfl, Nat.le_of_ble_eq_true rfl⟩ hl.1 rfl (Nat.le_of_ble_eq_true rfl) d_W_zone_4 (fun E ce q9 H locs hex hW h1 h2 h3 => ?_) (fun rr MM H locs hp hW => ?_)
  · have hf := xr1 E hex
    by_cases e0 : E = "java/lang/IllegalArgumentException"
    · have hf := rd_t hf e0
      subst e0
      refine rd_caughtP (h := 12) h1 h2 h3 (fun hpl => by rw [hnt]; exact rd_rH (by decide) (by decide) (by decide) (rd_hit hpl C9.1.2.2.2.1 (C9.1.2.2.2.2 _ l_W_13) (hTh.2.2.2.1 _ (List.mem_of_getElem? (i := 0) rfl)).2 h3)) ?_
      refine lv_astore_n (lv' := [(3, .ref q9), (0, .ref (ad 0)), (1, .int p1), (2, .ref (ad 139))]) hx hb d_W_zone_12 rfl hl (by decide) rfl (fun ls hl => ?_)
      refine lv_iconst (v := 1) hx hb d_W_zone_13 (by decide) ?_
      obtain rfl := Option.some.inj hf
      exact rd_iret C9 hlk hret hW ⟨rfl, rfl⟩ (by decide) (by decide) d_W_zone_14
    have hf := rd_f hf e0
    by_cases e1 : E = "java/util/NoSuchElementException"
    · have hf := rd_t hf e1
      subst e1
      refine rd_caughtP (h := 15) h1 h2 h3 (fun hpl => by rw [hnt]; exact rd_rM (by decide) (by decide) (by decide) (rd_miss hpl C9.1.2.2.2.1 (C9.1.2.2.2.2 _ l_W_13) (hTh.2.2.2.2 (_, _) (List.mem_of_getElem? (i := 3) rfl)) h3) (rd_rH (by decide) (by decide) (by decide) (rd_hit hpl C9.1.2.2.2.1 (C9.1.2.2.2.2 _ l_W_15) (hTh.2.2.2.1 _ (List.mem_of_getElem? (i := 8) rfl)).2 h3))) ?_
      refine lv_astore_n (lv' := [(3, .ref q9), (0, .ref (ad 0)), (1, .int p1), (2, .ref (ad 139))]) hx hb d_W_zone_15 rfl hl (by decide) rfl (fun ls hl => ?_)
      refine lv_iconst (v := 2) hx hb d_W_zone_16 (by decide) ?_
      obtain rfl := Option.some.inj hf
      exact rd_iret C9 hlk hret hW ⟨rfl, rfl⟩ (by decide) (by decide) d_W_zone_17
    have hf := rd_f hf e1
    by_cases e2 : E = "java/lang/UnsupportedOperationException"
    · have hf := rd_t hf e2
      subst e2
      refine rd_caughtP (h := 18) h1 h2 h3 (fun hpl => by rw [hnt]; exact rd_rM (by decide) (by decide) (by decide) (rd_miss hpl C9.1.2.2.2.1 (C9.1.2.2.2.2 _ l_W_13) (hTh.2.2.2.2 (_, _) (List.mem_of_getElem? (i := 6) rfl)) h3) (rd_rM (by decide) (by decide) (by decide) (rd_miss hpl C9.1.2.2.2.1 (C9.1.2.2.2.2 _ l_W_15) (hTh.2.2.2.2 (_, _) (List.mem_of_getElem? (i := 7) rfl)) h3) (rd_rH (by decide) (by decide) (by decide) (rd_hit hpl C9.1.2.2.2.1 (C9.1.2.2.2.2 _ l_W_17) (hTh.2.2.2.1 _ (List.mem_of_getElem? (i := 9) rfl)).2 h3)))) ?_
      refine lv_astore_n (lv' := [(3, .ref q9), (0, .ref (ad 0)), (1, .int p1), (2, .ref (ad 139))]) hx hb d_W_zone_18 rfl hl (by decide) rfl (fun ls hl => ?_)
      refine lv_iconst (v := 3) hx hb d_W_zone_19 (by decide) ?_
      obtain rfl := Option.some.inj hf
      exact rd_iret C9 hlk hret hW ⟨rfl, rfl⟩ (by decide) (by decide) d_W_zone_20
    have hf := rd_f hf e2
    by_cases e3 : E = "java/lang/IllegalStateException"
    · have hf := rd_t hf e3
      subst e3
      refine rd_caughtP (h := 21) h1 h2 h3 (fun hpl => by rw [hnt]; exact rd_rM (by decide) (by decide) (by decide) (rd_miss hpl C9.1.2.2.2.1 (C9.1.2.2.2.2 _ l_W_13) (hTh.2.2.2.2 (_, _) (List.mem_of_getElem? (i := 9) rfl)) h3) (rd_rM (by decide) (by decide) (by decide) (rd_miss hpl C9.1.2.2.2.1 (C9.1.2.2.2.2 _ l_W_15) (hTh.2.2.2.2 (_, _) (List.mem_of_getElem? (i := 10) rfl)) h3) (rd_rM (by decide) (by decide) (by decide) (rd_miss hpl C9.1.2.2.2.1 (C9.1.2.2.2.2 _ l_W_17) (hTh.2.2.2.2 (_, _) (List.mem_of_getElem? (i := 11) rfl)) h3) (rd_rH (by decide) (by decide) (by decide) (rd_hit hpl C9.1.2.2.2.1 (C9.1.2.2.2.2 _ l_W_19) (hTh.2.2.2.1 _ (List.mem_of_getElem? (i := 7) rfl)).2 h3))))) ?_
      refine lv_astore_n (lv' := [(3, .ref q9), (0, .ref (ad 0)), (1, .int p1), (2, .ref (ad 139))]) hx hb d_W_zone_21 rfl hl (by decide) rfl (fun ls hl => ?_)
      refine lv_iconst (v := 4) hx hb d_W_zone_22 (by decide) ?_
      obtain rfl := Option.some.inj hf
      exact rd_iret C9 hlk hret hW ⟨rfl, rfl⟩ (by decide) (by decide) d_W_zone_23
    have hf := rd_f hf e3
    exact (rd_nf hf).elim
  obtain ⟨r1, er1, rfl, rfl⟩ := hp
  have hf := vr1 _ er1
  rw [rd_pm_self] at hW
  refine lv_i2l hx hb d_W_zone_7 rfl ?_
  refine as_out C9 hW (i := 0) (by decide) (show rd_in 0 1 by decide) d_W_zone_8 (fun H locs hW => ?_)
  obtain ⟨M2, hM2, hf⟩ := rd_k_el hf
  rw [← hM2] at hW
  refine lv_goto (tgt := 24) hx hb d_W_zone_9 (by decide) ?_
  refine lv_iconst (v := 0) hx hb d_W_zone_24 (by decide) ?_
  obtain rfl := Option.some.inj hf
  exact rd_iret C9 hlk hret hW ⟨rfl, rfl⟩ (by decide) (by decide) d_W_zone_25
