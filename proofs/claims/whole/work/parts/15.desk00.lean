def f_A_spend (M : rd_M) (r0_0 : Nat) (p1 : Int32) (p2 : UInt64) : Option (rd_M) :=
  if rd_nn (FP.dsub ((M (3 + 3 * r0_0)).2.2 2) p2) then
  rd_k (rd_dU M (3 + 3 * r0_0) 2 (FP.dsub ((M (3 + 3 * r0_0)).2.2 2) p2)) fun M1 =>
  if rd_in p1 4 then
  if rd_nn (FP.dadd ((M1 (4 + 3 * r0_0)).2.2 p1.toNatClampNeg) p2) then
  if rd_in p1 4 then
  rd_k (rd_dU M1 (4 + 3 * r0_0) p1.toNatClampNeg (FP.dadd ((M1 (4 + 3 * r0_0)).2.2 p1.toNatClampNeg) p2)) fun M4 =>
  some M4
  else none
  else none
  else none
  else none
set_option maxRecDepth 100000 in
set_option maxHeartbeats 4000000 in
theorem c_A_spend {l : Launch} (hls : l.stackTraces = false) {D : va_G} {Ka : Nat → ClassId} {ad : Nat → Nat} {M : rd_M} (r0_0 : Nat) (p1 : Int32) (p2 : UInt64) (h0_0 : r0_0 < 4) {o : rd_M} (hf : f_A_spend M r0_0 p1 p2 = some o) :
    rd_Met l y_A_spend b_A_spend 4 none (0, 0, 0, 0) rd_T rd_ss D rd_cl (rd_ty Ka) (dk_L Ka) ad M [.ref (ad (3 + 3 * r0_0)), .int p1, .double p2] (fun r M1 => r = none ∧ o = M1) (fun _ => False) := by
  refine rd_body (by decide) (Nat.le_of_ble_eq_true rfl) ?_
  intro p e s m below meth c C9 hlk hret hnt hTh hW ls hl
  have hx := C9.1.1
  have hb := C9.1.2.1
  have hl : lv_has ls 4 [(0, .ref (ad (3 + 3 * r0_0))), (1, .int p1), (2, .double p2)] := hl
  unfold f_A_spend at hf
  refine lv_aload_n hx hb d_A_spend_0 rfl (lv_at hl 0 rfl) ?_
  refine lv_dup hx hb d_A_spend_1 rfl ?_
  refine gf_A_balance C9 hW h0_0 l_A_19 d_A_spend_2 ?_
  refine lv_dload_n hx hb d_A_spend_5 rfl (lv_at hl 2 rfl) ?_
  obtain ⟨g_6, hf⟩ := rd_g hf
  refine lv_dsub hx hb d_A_spend_6 g_6 ?_
  refine pf_A_balance C9 hW h0_0 l_A_19 d_A_spend_7 (fun H locs hW => ?_)
  obtain ⟨M1, hM1, hf⟩ := rd_k_el hf
  rw [← hM1] at hW
  refine lv_aload_n hx hb d_A_spend_10 rfl (lv_at hl 0 rfl) ?_
  refine gf_A_spent C9 hW h0_0 l_A_9 d_A_spend_11 ?_
  refine lv_iload_n hx hb d_A_spend_14 rfl (lv_at hl 1 rfl) ?_
  refine lv_dup2_11 hx hb d_A_spend_15 rfl rfl ?_
  obtain ⟨g2, hf⟩ := rd_g hf
  refine al_spent C9 hW h0_0 rfl g2 d_A_spend_16 ?_
  refine lv_dload_n hx hb d_A_spend_17 rfl (lv_at hl 2 rfl) ?_
  obtain ⟨g_18, hf⟩ := rd_g hf
  refine lv_dadd hx hb d_A_spend_18 g_18 ?_
  obtain ⟨g3, hf⟩ := rd_g hf
  refine as_spent C9 hW h0_0 rfl g3 d_A_spend_19 (fun H locs hW => ?_)
  obtain ⟨M4, hM4, hf⟩ := rd_k_el hf
  rw [← hM4] at hW
  obtain rfl := Option.some.inj hf
  exact rd_vret C9 hlk hret hW ⟨rfl, rfl⟩ (by decide) (by decide) d_A_spend_20
def lb_A_dropOldest_19 (q0_0 : Nat) (Kf : Int32 → rd_M → Option (rd_M)) (rec : Int32 → rd_M → Option (rd_M)) (v19_1 : Int32) (v19_M : rd_M) : Option (rd_M) :=
  if ((v19_M (3 + 3 * q0_0)).1 3) ≤ v19_1 then
    Kf v19_1 v19_M
  else
    if rd_in (v19_1 + 1) 12 then
    if rd_in v19_1 12 then
    rd_k (rd_iU v19_M (5 + 3 * q0_0) v19_1.toNatClampNeg ((v19_M (5 + 3 * q0_0)).1 ((v19_1 + 1).toNatClampNeg))) fun M6 =>
    rec (v19_1 + 1) M6
    else none
    else none
def f_A_dropOldest (M : rd_M) (r0_0 : Nat) : Option (rd_M) :=
  if ((M (3 + 3 * r0_0)).1 3) ≤ 0 then
    some M
  else
    rd_k (rd_iU M (3 + 3 * r0_0) 3 (((M (3 + 3 * r0_0)).1 3) - 1)) fun M2 =>
    rd_it (fun _ _ => none) (lb_A_dropOldest_19 r0_0 (fun w19_1 w19_M =>
      some w19_M)) 64 0 M2
set_option maxRecDepth 100000 in
set_option maxHeartbeats 4000000 in
theorem c_A_dropOldest {l : Launch} (hls : l.stackTraces = false) {D : va_G} {Ka : Nat → ClassId} {ad : Nat → Nat} {M : rd_M} (r0_0 : Nat) (h0_0 : r0_0 < 4) {o : rd_M} (hf : f_A_dropOldest M r0_0 = some o) :
    rd_Met l y_A_dropOldest b_A_dropOldest 2 none (0, 0, 0, 0) rd_T rd_ss D rd_cl (rd_ty Ka) (dk_L Ka) ad M [.ref (ad (3 + 3 * r0_0))] (fun r M1 => r = none ∧ o = M1) (fun _ => False) := by
  refine rd_body (by decide) (Nat.le_of_ble_eq_true rfl) ?_
  intro p e s m below meth c C9 hlk hret hnt hTh hW ls hl
  have hx := C9.1.1
  have hb := C9.1.2.1
  have hl : lv_has ls 2 [(0, .ref (ad (3 + 3 * r0_0)))] := hl
  unfold f_A_dropOldest at hf
  refine lv_aload_n hx hb d_A_dropOldest_0 rfl (lv_at hl 0 rfl) ?_
  refine gf_A_messageCount C9 hW h0_0 l_A_23 d_A_dropOldest_1 ?_
  refine lv_if_le (tgt := 47) hx hb d_A_dropOldest_4 (by decide) (fun c1 => ?_) (fun c1 => ?_)
  · have hf := rd_t hf c1
    obtain rfl := Option.some.inj hf
    exact rd_vret C9 hlk hret hW ⟨rfl, rfl⟩ (by decide) (by decide) d_A_dropOldest_47
  · have hf := rd_f hf c1
    refine lv_aload_n hx hb d_A_dropOldest_7 rfl (lv_at hl 0 rfl) ?_
    refine lv_dup hx hb d_A_dropOldest_8 rfl ?_
    refine gf_A_messageCount C9 hW h0_0 l_A_23 d_A_dropOldest_9 ?_
    refine lv_iconst (v := 1) hx hb d_A_dropOldest_12 (by decide) ?_
    refine lv_isub hx hb d_A_dropOldest_13 ?_
    refine pf_A_messageCount C9 hW h0_0 l_A_23 d_A_dropOldest_14 (fun H locs hW => ?_)
    obtain ⟨M2, hM2, hf⟩ := rd_k_el hf
    rw [← hM2] at hW
    refine lv_iconst (v := 0) hx hb d_A_dropOldest_17 (by decide) ?_
    refine lv_istore_n (lv' := [(1, .int 0), (0, .ref (ad (3 + 3 * r0_0)))]) hx hb d_A_dropOldest_18 rfl hl (by decide) rfl (fun ls hl => ?_)
    have loop_19 : ∀ (Kf : Int32 → rd_M → Option (rd_M)) (hk_19 : ∀ (w19_1 : Int32) (w19_M : rd_M) (H : Heap) (locs : List Loc) (ls : Array Slot), Kf w19_1 w19_M = some o → rd_W D rd_cl (dk_L Ka) ad (rd_A (dk_L Ka) ad s.heap.size) s.heap w19_M H locs → lv_has ls 2 [(1, .int w19_1), (0, .ref (ad (3 + 3 * r0_0)))] → W p l e { frames := 0, cells := 0, slots := 0, locals := 0 } s m [.ref (ad (3 + 3 * r0_0))].toArray below meth c H locs 0 0 (rd_Z below (rd_O D rd_cl (dk_L Ka) ad M (rd_A (dk_L Ka) ad s.heap.size) 0 0 (fun r M1 => r = none ∧ o = M1) (fun _ => False)) s) (F0 m 47 ls [])) (fu : Nat) (v19_1 : Int32) (v19_M : rd_M) (H : Heap) (locs : List Loc) (ls : Array Slot), rd_it (fun _ _ => none) (lb_A_dropOldest_19 r0_0 Kf) fu v19_1 v19_M = some o → rd_W D rd_cl (dk_L Ka) ad (rd_A (dk_L Ka) ad s.heap.size) s.heap v19_M H locs → lv_has ls 2 [(1, .int v19_1), (0, .ref (ad (3 + 3 * r0_0)))] → W p l e { frames := 0, cells := 0, slots := 0, locals := 0 } s m [.ref (ad (3 + 3 * r0_0))].toArray below meth c H locs 0 0 (rd_Z below (rd_O D rd_cl (dk_L Ka) ad M (rd_A (dk_L Ka) ad s.heap.size) 0 0 (fun r M1 => r = none ∧ o = M1) (fun _ => False)) s) (F0 m 19 ls []) := by
      intro Kf hk_19 fu
      induction fu with
      | zero => intro _ _ H locs ls hf; exact (rd_nf hf).elim
      | succ fu ih_19 =>
        intro v19_1 v19_M H locs ls hf hW hl
        rw [rd_it_s] at hf
        unfold lb_A_dropOldest_19 at hf
        refine lv_iload_n hx hb d_A_dropOldest_19 rfl (lv_at hl 0 rfl) ?_
        refine lv_aload_n hx hb d_A_dropOldest_20 rfl (lv_at hl 1 rfl) ?_
        refine gf_A_messageCount C9 hW h0_0 l_A_23 d_A_dropOldest_21 ?_
        refine lv_icmp_ge (tgt := 47) hx hb d_A_dropOldest_24 (by decide) (fun c7 => ?_) (fun c7 => ?_)
        · have hf := rd_t hf c7
          exact hk_19 _ _ _ _ _ hf hW (lv_sub hl [0, 1] rfl)
        · have hf := rd_f hf c7
          refine lv_aload_n hx hb d_A_dropOldest_27 rfl (lv_at hl 1 rfl) ?_
          refine gf_A_messages C9 hW h0_0 l_A_15 d_A_dropOldest_28 ?_
          refine lv_iload_n hx hb d_A_dropOldest_31 rfl (lv_at hl 0 rfl) ?_
          refine lv_aload_n hx hb d_A_dropOldest_32 rfl (lv_at hl 1 rfl) ?_
          refine gf_A_messages C9 hW h0_0 l_A_15 d_A_dropOldest_33 ?_
          refine lv_iload_n hx hb d_A_dropOldest_36 rfl (lv_at hl 0 rfl) ?_
          refine lv_iconst (v := 1) hx hb d_A_dropOldest_37 (by decide) ?_
          refine lv_iadd hx hb d_A_dropOldest_38 ?_
          obtain ⟨g8, hf⟩ := rd_g hf
          refine al_messages C9 hW h0_0 rfl g8 d_A_dropOldest_39 ?_
          obtain ⟨g9, hf⟩ := rd_g hf
          refine as_messages C9 hW h0_0 rfl g9 d_A_dropOldest_40 (fun H locs hW => ?_)
          obtain ⟨M10, hM10, hf⟩ := rd_k_el hf
          rw [← hM10] at hW
          refine lv_iinc (v := v19_1 + 1) (lv' := [(1, .int (v19_1 + 1)), (0, .ref (ad (3 + 3 * r0_0)))]) hx hb d_A_dropOldest_41 hl (k := 0) rfl rfl (by decide) rfl (fun ls hl => ?_)
          refine lv_goto (tgt := 19) hx hb d_A_dropOldest_44 (by decide) ?_
          exact ih_19 _ _ _ _ _ hf hW (lv_sub hl [0, 1] rfl)
    refine loop_19 _ ?_ 64 _ _ _ _ _ hf hW (lv_sub hl [0, 1] rfl)
    intro w19_1 w19_M H locs ls hf hW hl
    obtain rfl := Option.some.inj hf
    exact rd_vret C9 hlk hret hW ⟨rfl, rfl⟩ (by decide) (by decide) d_A_dropOldest_47
def f_A_tell (M : rd_M) (r0_0 : Nat) (p1 : Int32) (p2 : Int32) : Option (rd_M) :=
  if ((M (3 + 3 * r0_0)).1 3) < 12 then
    if rd_in ((M (3 + 3 * r0_0)).1 3) 12 then
    rd_k (rd_iU M (5 + 3 * r0_0) (((M (3 + 3 * r0_0)).1 3).toNatClampNeg) ((10 * p1) + p2)) fun M3 =>
    rd_k (rd_iU M3 (3 + 3 * r0_0) 3 (((M3 (3 + 3 * r0_0)).1 3) + 1)) fun M4 =>
    some M4
    else none
  else
    (f_A_dropOldest M r0_0).bind fun r5 =>
    if rd_in ((r5 (3 + 3 * r0_0)).1 3) 12 then
    rd_k (rd_iU r5 (5 + 3 * r0_0) (((r5 (3 + 3 * r0_0)).1 3).toNatClampNeg) ((10 * p1) + p2)) fun M7 =>
    rd_k (rd_iU M7 (3 + 3 * r0_0) 3 (((M7 (3 + 3 * r0_0)).1 3) + 1)) fun M8 =>
    some M8
    else none
set_option maxRecDepth 100000 in
set_option maxHeartbeats 4000000 in
theorem c_A_tell {l : Launch} (hls : l.stackTraces = false) {D : va_G} {Ka : Nat → ClassId} {ad : Nat → Nat} {M : rd_M} (r0_0 : Nat) (p1 : Int32) (p2 : Int32) (h0_0 : r0_0 < 4) {o : rd_M} (hf : f_A_tell M r0_0 p1 p2 = some o) :
    rd_Met l y_A_tell b_A_tell 3 none (1, 21, 0, 0) rd_T rd_ss D rd_cl (rd_ty Ka) (dk_L Ka) ad M [.ref (ad (3 + 3 * r0_0)), .int p1, .int p2] (fun r M1 => r = none ∧ o = M1) (fun _ => False) := by
  refine rd_body (by decide) (Nat.le_of_ble_eq_true rfl) ?_
  intro p e s m below meth c C9 hlk hret hnt hTh hW ls hl
  have hx := C9.1.1
  have hb := C9.1.2.1
  have hl : lv_has ls 3 [(0, .ref (ad (3 + 3 * r0_0))), (1, .int p1), (2, .int p2)] := hl
  unfold f_A_tell at hf
  refine lv_aload_n hx hb d_A_tell_0 rfl (lv_at hl 0 rfl) ?_
  refine gf_A_messageCount C9 hW h0_0 l_A_23 d_A_tell_1 ?_
  refine lv_bipush (v := 12) hx hb d_A_tell_4 (by decide) ?_
  refine lv_icmp_lt (tgt := 13) hx hb d_A_tell_6 (by decide) (fun c1 => ?_) (fun c1 => ?_)
  · have hf := rd_t hf c1
    refine lv_aload_n hx hb d_A_tell_13 rfl (lv_at hl 0 rfl) ?_
    refine gf_A_messages C9 hW h0_0 l_A_15 d_A_tell_14 ?_
    refine lv_aload_n hx hb d_A_tell_17 rfl (lv_at hl 0 rfl) ?_
    refine gf_A_messageCount C9 hW h0_0 l_A_23 d_A_tell_18 ?_
    refine lv_bipush (v := 10) hx hb d_A_tell_21 (by decide) ?_
    refine lv_iload_n hx hb d_A_tell_23 rfl (lv_at hl 1 rfl) ?_
    refine lv_imul hx hb d_A_tell_24 ?_
    refine lv_iload_n hx hb d_A_tell_25 rfl (lv_at hl 2 rfl) ?_
    refine lv_iadd hx hb d_A_tell_26 ?_
    obtain ⟨g2, hf⟩ := rd_g hf
    refine as_messages C9 hW h0_0 rfl g2 d_A_tell_27 (fun H locs hW => ?_)
    obtain ⟨M3, hM3, hf⟩ := rd_k_el hf
    rw [← hM3] at hW
    refine lv_aload_n hx hb d_A_tell_28 rfl (lv_at hl 0 rfl) ?_
    refine lv_dup hx hb d_A_tell_29 rfl ?_
    refine gf_A_messageCount C9 hW h0_0 l_A_23 d_A_tell_30 ?_
    refine lv_iconst (v := 1) hx hb d_A_tell_33 (by decide) ?_
    refine lv_iadd hx hb d_A_tell_34 ?_
    refine pf_A_messageCount C9 hW h0_0 l_A_23 d_A_tell_35 (fun H locs hW => ?_)
    obtain ⟨M4, hM4, hf⟩ := rd_k_el hf
    rw [← hM4] at hW
    obtain rfl := Option.some.inj hf
    exact rd_vret C9 hlk hret hW ⟨rfl, rfl⟩ (by decide) (by decide) d_A_tell_38
  · have hf := rd_f hf c1
    refine lv_aload_n hx hb d_A_tell_9 rfl (lv_at hl 0 rfl) ?_
    obtain ⟨r5, qr5, hf⟩ := rd_bind hf
    refine rd_callV (As := []) (rest := []) rd_gd C9 hTh hW (c_A_dropOldest hls r0_0 h0_0 qr5) kc_A_dropOldest ki_A_dropOldest ks_A_dropOldest l_A_27 rfl (lt_A h0_0) (ce_A h0_0) rfl ⟨Nat.le_of_ble_eq_true rfl, Nat.le_of_ble_eq_true rfl⟩ ⟨Nat.le_of_ble_eq_true rfl, Nat.le_of_ble_eq_true rfl⟩ hl.1 rfl (Nat.le_of_ble_eq_true rfl) d_A_tell_10 (fun E _ _ _ _ hex => hex.elim) (fun rr MM H locs hp hW => ?_)
    obtain ⟨rfl, rfl⟩ := hp
    refine lv_aload_n hx hb d_A_tell_13 rfl (lv_at hl 0 rfl) ?_
    refine gf_A_messages C9 hW h0_0 l_A_15 d_A_tell_14 ?_
    refine lv_aload_n hx hb d_A_tell_17 rfl (lv_at hl 0 rfl) ?_
    refine gf_A_messageCount C9 hW h0_0 l_A_23 d_A_tell_18 ?_
    refine lv_bipush (v := 10) hx hb d_A_tell_21 (by decide) ?_
    refine lv_iload_n hx hb d_A_tell_23 rfl (lv_at hl 1 rfl) ?_
    refine lv_imul hx hb d_A_tell_24 ?_
    refine lv_iload_n hx hb d_A_tell_25 rfl (lv_at hl 2 rfl) ?_
    refine lv_iadd hx hb d_A_tell_26 ?_
    obtain ⟨g6, hf⟩ := rd_g hf
    refine as_messages C9 hW h0_0 rfl g6 d_A_tell_27 (fun H locs hW => ?_)
    obtain ⟨M7, hM7, hf⟩ := rd_k_el hf
    rw [← hM7] at hW
    refine lv_aload_n hx hb d_A_tell_28 rfl (lv_at hl 0 rfl) ?_
    refine lv_dup hx hb d_A_tell_29 rfl ?_
    refine gf_A_messageCount C9 hW h0_0 l_A_23 d_A_tell_30 ?_
    refine lv_iconst (v := 1) hx hb d_A_tell_33 (by decide) ?_
    refine lv_iadd hx hb d_A_tell_34 ?_
    refine pf_A_messageCount C9 hW h0_0 l_A_23 d_A_tell_35 (fun H locs hW => ?_)
    obtain ⟨M8, hM8, hf⟩ := rd_k_el hf
    rw [← hM8] at hW
    obtain rfl := Option.some.inj hf
    exact rd_vret C9 hlk hret hW ⟨rfl, rfl⟩ (by decide) (by decide) d_A_tell_38
def f_D_enter (M : rd_M) (r0_0 : Nat) (p1 : Int32) (p2 : Int32) : Option (rd_M) :=
  rd_k (rd_iU M (37 + 8 * r0_0) 8 p1) fun M1 =>
  rd_k (rd_iU M1 (37 + 8 * r0_0) 9 p2) fun M2 =>
  some M2
set_option maxRecDepth 100000 in
set_option maxHeartbeats 4000000 in
theorem c_D_enter {l : Launch} (hls : l.stackTraces = false) {D : va_G} {Ka : Nat → ClassId} {ad : Nat → Nat} {M : rd_M} (r0_0 : Nat) (p1 : Int32) (p2 : Int32) (h0_0 : r0_0 < 10) {o : rd_M} (hf : f_D_enter M r0_0 p1 p2 = some o) :
    rd_Met l y_D_enter b_D_enter 3 none (0, 0, 0, 0) rd_T rd_ss D rd_cl (rd_ty Ka) (dk_L Ka) ad M [.ref (ad (37 + 8 * r0_0)), .int p1, .int p2] (fun r M1 => r = none ∧ o = M1) (fun _ => False) := by
  refine rd_body (by decide) (Nat.le_of_ble_eq_true rfl) ?_
  intro p e s m below meth c C9 hlk hret hnt hTh hW ls hl
  have hx := C9.1.1
  have hb := C9.1.2.1
  have hl : lv_has ls 3 [(0, .ref (ad (37 + 8 * r0_0))), (1, .int p1), (2, .int p2)] := hl
  unfold f_D_enter at hf
  refine lv_aload_n hx hb d_D_enter_0 rfl (lv_at hl 0 rfl) ?_
  refine lv_iload_n hx hb d_D_enter_1 rfl (lv_at hl 1 rfl) ?_
  refine pf_D_state C9 hW h0_0 l_D_63 d_D_enter_2 (fun H locs hW => ?_)
  obtain ⟨M1, hM1, hf⟩ := rd_k_el hf
  rw [← hM1] at hW
  refine lv_aload_n hx hb d_D_enter_5 rfl (lv_at hl 0 rfl) ?_
  refine lv_iload_n hx hb d_D_enter_6 rfl (lv_at hl 2 rfl) ?_
  refine pf_D_stateEnd C9 hW h0_0 l_D_66 d_D_enter_7 (fun H locs hW => ?_)
  obtain ⟨M2, hM2, hf⟩ := rd_k_el hf
  rw [← hM2] at hW
  obtain rfl := Option.some.inj hf
  exact rd_vret C9 hlk hret hW ⟨rfl, rfl⟩ (by decide) (by decide) d_D_enter_10
def f_R_append (M : rd_M) (r0_0 : Nat) (r0_1 : Nat) (p1 : Int32) : Option (rd_M) :=
  if 3 ≤ ((M (39 + 8 * r0_0 + 2 * r0_1)).1 1) then
    some M
  else
    if rd_in ((M (39 + 8 * r0_0 + 2 * r0_1)).1 1) 3 then
    rd_k (rd_iU M (40 + 8 * r0_0 + 2 * r0_1) (((M (39 + 8 * r0_0 + 2 * r0_1)).1 1).toNatClampNeg) p1) fun M3 =>
    rd_k (rd_iU M3 (39 + 8 * r0_0 + 2 * r0_1) 1 (((M3 (39 + 8 * r0_0 + 2 * r0_1)).1 1) + 1)) fun M4 =>
    some M4
    else none
set_option maxRecDepth 100000 in
set_option maxHeartbeats 4000000 in
theorem c_R_append {l : Launch} (hls : l.stackTraces = false) {D : va_G} {Ka : Nat → ClassId} {ad : Nat → Nat} {M : rd_M} (r0_0 : Nat) (r0_1 : Nat) (p1 : Int32) (h0_0 : r0_0 < 10) (h0_1 : r0_1 < 2) {o : rd_M} (hf : f_R_append M r0_0 r0_1 p1 = some o) :
    rd_Met l y_R_append b_R_append 2 none (0, 0, 0, 0) rd_T rd_ss D rd_cl (rd_ty Ka) (dk_L Ka) ad M [.ref (ad (39 + 8 * r0_0 + 2 * r0_1)), .int p1] (fun r M1 => r = none ∧ o = M1) (fun _ => False) := by
  refine rd_body (by decide) (Nat.le_of_ble_eq_true rfl) ?_
  intro p e s m below meth c C9 hlk hret hnt hTh hW ls hl
  have hx := C9.1.1
  have hb := C9.1.2.1
  have hl : lv_has ls 2 [(0, .ref (ad (39 + 8 * r0_0 + 2 * r0_1))), (1, .int p1)] := hl
  unfold f_R_append at hf
  refine lv_aload_n hx hb d_R_append_0 rfl (lv_at hl 0 rfl) ?_
  refine gf_R_size C9 hW h0_0 h0_1 l_R_15 d_R_append_1 ?_
  refine lv_iconst (v := 3) hx hb d_R_append_4 (by decide) ?_
  refine lv_icmp_ge (tgt := 28) hx hb d_R_append_5 (by decide) (fun c1 => ?_) (fun c1 => ?_)
  · have hf := rd_t hf c1
    obtain rfl := Option.some.inj hf
    exact rd_vret C9 hlk hret hW ⟨rfl, rfl⟩ (by decide) (by decide) d_R_append_28
  · have hf := rd_f hf c1
    refine lv_aload_n hx hb d_R_append_8 rfl (lv_at hl 0 rfl) ?_
    refine gf_R_numbers C9 hW h0_0 h0_1 l_R_9 d_R_append_9 ?_
    refine lv_aload_n hx hb d_R_append_12 rfl (lv_at hl 0 rfl) ?_
    refine gf_R_size C9 hW h0_0 h0_1 l_R_15 d_R_append_13 ?_
    refine lv_iload_n hx hb d_R_append_16 rfl (lv_at hl 1 rfl) ?_
    obtain ⟨g2, hf⟩ := rd_g hf
    refine as_numbers C9 hW h0_0 h0_1 rfl g2 d_R_append_17 (fun H locs hW => ?_)
    obtain ⟨M3, hM3, hf⟩ := rd_k_el hf
    rw [← hM3] at hW
    refine lv_aload_n hx hb d_R_append_18 rfl (lv_at hl 0 rfl) ?_
    refine lv_dup hx hb d_R_append_19 rfl ?_
    refine gf_R_size C9 hW h0_0 h0_1 l_R_15 d_R_append_20 ?_
    refine lv_iconst (v := 1) hx hb d_R_append_23 (by decide) ?_
    refine lv_iadd hx hb d_R_append_24 ?_
    refine pf_R_size C9 hW h0_0 h0_1 l_R_15 d_R_append_25 (fun H locs hW => ?_)
    obtain ⟨M4, hM4, hf⟩ := rd_k_el hf
    rw [← hM4] at hW
    obtain rfl := Option.some.inj hf
    exact rd_vret C9 hlk hret hW ⟨rfl, rfl⟩ (by decide) (by decide) d_R_append_28
def f_D_setGrace (M : rd_M) (r0_0 : Nat) (p1 : Int32) (p2 : UInt64) (p4 : Int32) : Option (rd_M) :=
  if rd_in p1 5 then
  rd_k (rd_dU M (43 + 8 * r0_0) p1.toNatClampNeg p2) fun M2 =>
  if rd_in p1 5 then
  rd_k (rd_iU M2 (44 + 8 * r0_0) p1.toNatClampNeg p4) fun M4 =>
  some M4
  else none
  else none
set_option maxRecDepth 100000 in
set_option maxHeartbeats 4000000 in
theorem c_D_setGrace {l : Launch} (hls : l.stackTraces = false) {D : va_G} {Ka : Nat → ClassId} {ad : Nat → Nat} {M : rd_M} (r0_0 : Nat) (p1 : Int32) (p2 : UInt64) (p4 : Int32) (h0_0 : r0_0 < 10) {o : rd_M} (hf : f_D_setGrace M r0_0 p1 p2 p4 = some o) :
    rd_Met l y_D_setGrace b_D_setGrace 5 none (0, 0, 0, 0) rd_T rd_ss D rd_cl (rd_ty Ka) (dk_L Ka) ad M [.ref (ad (37 + 8 * r0_0)), .int p1, .double p2, .int p4] (fun r M1 => r = none ∧ o = M1) (fun _ => False) := by
  refine rd_body (by decide) (Nat.le_of_ble_eq_true rfl) ?_
  intro p e s m below meth c C9 hlk hret hnt hTh hW ls hl
  have hx := C9.1.1
  have hb := C9.1.2.1
  have hl : lv_has ls 5 [(0, .ref (ad (37 + 8 * r0_0))), (1, .int p1), (2, .double p2), (4, .int p4)] := hl
  unfold f_D_setGrace at hf
  refine lv_aload_n hx hb d_D_setGrace_0 rfl (lv_at hl 0 rfl) ?_
  refine gf_D_graceCost C9 hW h0_0 l_D_18 d_D_setGrace_1 ?_
  refine lv_iload_n hx hb d_D_setGrace_4 rfl (lv_at hl 1 rfl) ?_
  refine lv_dload_n hx hb d_D_setGrace_5 rfl (lv_at hl 2 rfl) ?_
  obtain ⟨g1, hf⟩ := rd_g hf
  refine as_graceCost C9 hW h0_0 rfl g1 d_D_setGrace_6 (fun H locs hW => ?_)
  obtain ⟨M2, hM2, hf⟩ := rd_k_el hf
  rw [← hM2] at hW
  refine lv_aload_n hx hb d_D_setGrace_7 rfl (lv_at hl 0 rfl) ?_
  refine gf_D_graceEnd C9 hW h0_0 l_D_22 d_D_setGrace_8 ?_
  refine lv_iload_n hx hb d_D_setGrace_11 rfl (lv_at hl 1 rfl) ?_
  refine lv_iload hx hb d_D_setGrace_12 (lv_at hl 3 rfl) ?_
  obtain ⟨g3, hf⟩ := rd_g hf
  refine as_graceEnd C9 hW h0_0 rfl g3 d_D_setGrace_14 (fun H locs hW => ?_)
  obtain ⟨M4, hM4, hf⟩ := rd_k_el hf
  rw [← hM4] at hW
  obtain rfl := Option.some.inj hf
  exact rd_vret C9 hlk hret hW ⟨rfl, rfl⟩ (by decide) (by decide) d_D_setGrace_15
def lb_D_clearGraces_2 (q0_0 : Nat) (Kf : Int32 → rd_M → Option (rd_M)) (rec : Int32 → rd_M → Option (rd_M)) (v2_1 : Int32) (v2_M : rd_M) : Option (rd_M) :=
  if 5 ≤ v2_1 then
    Kf v2_1 v2_M
  else
    (f_D_setGrace v2_M q0_0 v2_1 FP.dconst0 (-1)).bind fun r2 =>
    rec (v2_1 + 1) r2
def f_D_clearGraces (M : rd_M) (r0_0 : Nat) : Option (rd_M) :=
  rd_it (fun _ _ => none) (lb_D_clearGraces_2 r0_0 (fun w2_1 w2_M =>
    some w2_M)) 64 0 M
set_option maxRecDepth 100000 in
set_option maxHeartbeats 4000000 in
theorem c_D_clearGraces {l : Launch} (hls : l.stackTraces = false) {D : va_G} {Ka : Nat → ClassId} {ad : Nat → Nat} {M : rd_M} (r0_0 : Nat) (h0_0 : r0_0 < 10) {o : rd_M} (hf : f_D_clearGraces M r0_0 = some o) :
    rd_Met l y_D_clearGraces b_D_clearGraces 2 none (1, 24, 0, 0) rd_T rd_ss D rd_cl (rd_ty Ka) (dk_L Ka) ad M [.ref (ad (37 + 8 * r0_0))] (fun r M1 => r = none ∧ o = M1) (fun _ => False) := by
  refine rd_body (by decide) (Nat.le_of_ble_eq_true rfl) ?_
  intro p e s m below meth c C9 hlk hret hnt hTh hW ls hl
  have hx := C9.1.1
  have hb := C9.1.2.1
  have hl : lv_has ls 2 [(0, .ref (ad (37 + 8 * r0_0)))] := hl
  unfold f_D_clearGraces at hf
  refine lv_iconst (v := 0) hx hb d_D_clearGraces_0 (by decide) ?_
  refine lv_istore_n (lv' := [(1, .int 0), (0, .ref (ad (37 + 8 * r0_0)))]) hx hb d_D_clearGraces_1 rfl hl (by decide) rfl (fun ls hl => ?_)
  have loop_2 : ∀ (Kf : Int32 → rd_M → Option (rd_M)) (hk_2 : ∀ (w2_1 : Int32) (w2_M : rd_M) (H : Heap) (locs : List Loc) (ls : Array Slot), Kf w2_1 w2_M = some o → rd_W D rd_cl (dk_L Ka) ad (rd_A (dk_L Ka) ad s.heap.size) s.heap w2_M H locs → lv_has ls 2 [(1, .int w2_1), (0, .ref (ad (37 + 8 * r0_0)))] → W p l e { frames := 1, cells := 0, slots := 0, locals := 24 } s m [.ref (ad (37 + 8 * r0_0))].toArray below meth c H locs 0 0 (rd_Z below (rd_O D rd_cl (dk_L Ka) ad M (rd_A (dk_L Ka) ad s.heap.size) 0 0 (fun r M1 => r = none ∧ o = M1) (fun _ => False)) s) (F0 m 20 ls [])) (fu : Nat) (v2_1 : Int32) (v2_M : rd_M) (H : Heap) (locs : List Loc) (ls : Array Slot), rd_it (fun _ _ => none) (lb_D_clearGraces_2 r0_0 Kf) fu v2_1 v2_M = some o → rd_W D rd_cl (dk_L Ka) ad (rd_A (dk_L Ka) ad s.heap.size) s.heap v2_M H locs → lv_has ls 2 [(1, .int v2_1), (0, .ref (ad (37 + 8 * r0_0)))] → W p l e { frames := 1, cells := 0, slots := 0, locals := 24 } s m [.ref (ad (37 + 8 * r0_0))].toArray below meth c H locs 0 0 (rd_Z below (rd_O D rd_cl (dk_L Ka) ad M (rd_A (dk_L Ka) ad s.heap.size) 0 0 (fun r M1 => r = none ∧ o = M1) (fun _ => False)) s) (F0 m 2 ls []) := by
    intro Kf hk_2 fu
    induction fu with
    | zero => intro _ _ H locs ls hf; exact (rd_nf hf).elim
    | succ fu ih_2 =>
      intro v2_1 v2_M H locs ls hf hW hl
      rw [rd_it_s] at hf
      unfold lb_D_clearGraces_2 at hf
      refine lv_iload_n hx hb d_D_clearGraces_2 rfl (lv_at hl 0 rfl) ?_
      refine lv_iconst (v := 5) hx hb d_D_clearGraces_3 (by decide) ?_
      refine lv_icmp_ge (tgt := 20) hx hb d_D_clearGraces_4 (by decide) (fun c3 => ?_) (fun c3 => ?_)
      · have hf := rd_t hf c3
        exact hk_2 _ _ _ _ _ hf hW (lv_sub hl [0, 1] rfl)
      · have hf := rd_f hf c3
        refine lv_aload_n hx hb d_D_clearGraces_7 rfl (lv_at hl 1 rfl) ?_
        refine lv_iload_n hx hb d_D_clearGraces_8 rfl (lv_at hl 0 rfl) ?_
        refine lv_dconst0 hx hb d_D_clearGraces_9 ?_
        refine lv_iconst (v := (-1)) hx hb d_D_clearGraces_10 (by decide) ?_
        obtain ⟨r4, qr4, hf⟩ := rd_bind hf
        refine rd_callV (As := [.int v2_1, .double FP.dconst0, .int (-1)]) (rest := []) rd_gd C9 hTh hW (c_D_setGrace hls r0_0 v2_1 FP.dconst0 (-1) h0_0 qr4) kc_D_setGrace ki_D_setGrace ks_D_setGrace l_D_73 rfl (lt_D h0_0) (ce_D h0_0) rfl ⟨Nat.le_of_ble_eq_true rfl, Nat.le_of_ble_eq_true rfl⟩ ⟨Nat.le_of_ble_eq_true rfl, Nat.le_of_ble_eq_true rfl⟩ hl.1 rfl (Nat.le_of_ble_eq_true rfl) d_D_clearGraces_11 (fun E _ _ _ _ hex => hex.elim) (fun rr MM H locs hp hW => ?_)
        obtain ⟨rfl, rfl⟩ := hp
        refine lv_iinc (v := v2_1 + 1) (lv' := [(1, .int (v2_1 + 1)), (0, .ref (ad (37 + 8 * r0_0)))]) hx hb d_D_clearGraces_14 hl (k := 0) rfl rfl (by decide) rfl (fun ls hl => ?_)
        refine lv_goto (tgt := 2) hx hb d_D_clearGraces_17 (by decide) ?_
        exact ih_2 _ _ _ _ _ hf hW (lv_sub hl [0, 1] rfl)
  refine loop_2 _ ?_ 64 _ _ _ _ _ hf hW (lv_sub hl [0, 1] rfl)
  intro w2_1 w2_M H locs ls hf hW hl
  obtain rfl := Option.some.inj hf
  exact rd_vret C9 hlk hret hW ⟨rfl, rfl⟩ (by decide) (by decide) d_D_clearGraces_20
def f_D_open (M : rd_M) (r0_0 : Nat) (p1 : Int32) (p2 : Int32) (p3 : Int32) (p4 : Int32) : Option (rd_M) :=
  rd_k (rd_iU M (37 + 8 * r0_0) 3 1) fun M1 =>
  rd_k (rd_iU M1 (37 + 8 * r0_0) 4 p1) fun M2 =>
  rd_k (rd_iU M2 (37 + 8 * r0_0) 5 p2) fun M3 =>
  rd_k (rd_iU M3 (37 + 8 * r0_0) 6 p3) fun M4 =>
  rd_k (rd_iU M4 (37 + 8 * r0_0) 7 0) fun M5 =>
  (f_D_enter M5 r0_0 0 (-1)).bind fun r6 =>
  rd_k (rd_iU r6 (37 + 8 * r0_0) 10 (-1)) fun M7 =>
  rd_k (rd_iU M7 (37 + 8 * r0_0) 11 (-1)) fun M8 =>
  rd_k (rd_iU M8 (39 + 8 * r0_0 + 2 * 0) 1 0) fun M9 =>
  (f_R_append M9 r0_0 0 p4).bind fun r10 =>
  rd_k (rd_iU r10 (39 + 8 * r0_0 + 2 * 1) 1 0) fun M11 =>
  (f_D_clearGraces M11 r0_0).bind fun r12 =>
  some r12
set_option maxRecDepth 100000 in
set_option maxHeartbeats 4000000 in
theorem c_D_open {l : Launch} (hls : l.stackTraces = false) {D : va_G} {Ka : Nat → ClassId} {ad : Nat → Nat} {M : rd_M} (r0_0 : Nat) (p1 : Int32) (p2 : Int32) (p3 : Int32) (p4 : Int32) (h0_0 : r0_0 < 10) {o : rd_M} (hf : f_D_open M r0_0 p1 p2 p3 p4 = some o) :
    rd_Met l y_D_open b_D_open 5 none (2, 45, 0, 0) rd_T rd_ss D rd_cl (rd_ty Ka) (dk_L Ka) ad M [.ref (ad (37 + 8 * r0_0)), .int p1, .int p2, .int p3, .int p4] (fun r M1 => r = none ∧ o = M1) (fun _ => False) := by
  refine rd_body (by decide) (Nat.le_of_ble_eq_true rfl) ?_
  intro p e s m below meth c C9 hlk hret hnt hTh hW ls hl
  have hx := C9.1.1
  have hb := C9.1.2.1
  have hl : lv_has ls 5 [(0, .ref (ad (37 + 8 * r0_0))), (1, .int p1), (2, .int p2), (3, .int p3), (4, .int p4)] := hl
  unfold f_D_open at hf
  refine lv_aload_n hx hb d_D_open_0 rfl (lv_at hl 0 rfl) ?_
  refine lv_iconst (v := 1) hx hb d_D_open_1 (by decide) ?_
  refine pf_D_there C9 hW h0_0 (Or.inr rfl) l_D_26 d_D_open_2 (fun H locs hW => ?_)
  obtain ⟨M1, hM1, hf⟩ := rd_k_el hf
  rw [← hM1] at hW
  refine lv_aload_n hx hb d_D_open_5 rfl (lv_at hl 0 rfl) ?_
  refine lv_iload_n hx hb d_D_open_6 rfl (lv_at hl 1 rfl) ?_
  refine pf_D_owner C9 hW h0_0 l_D_30 d_D_open_7 (fun H locs hW => ?_)
  obtain ⟨M2, hM2, hf⟩ := rd_k_el hf
  rw [← hM2] at hW
  refine lv_aload_n hx hb d_D_open_10 rfl (lv_at hl 0 rfl) ?_
  refine lv_iload_n hx hb d_D_open_11 rfl (lv_at hl 2 rfl) ?_
  refine pf_D_expiry C9 hW h0_0 l_D_34 d_D_open_12 (fun H locs hW => ?_)
  obtain ⟨M3, hM3, hf⟩ := rd_k_el hf
  rw [← hM3] at hW
  refine lv_aload_n hx hb d_D_open_15 rfl (lv_at hl 0 rfl) ?_
  refine lv_iload_n hx hb d_D_open_16 rfl (lv_at hl 3 rfl) ?_
  refine pf_D_code C9 hW h0_0 l_D_37 d_D_open_17 (fun H locs hW => ?_)
  obtain ⟨M4, hM4, hf⟩ := rd_k_el hf
  rw [← hM4] at hW
  refine lv_aload_n hx hb d_D_open_20 rfl (lv_at hl 0 rfl) ?_
  refine lv_iconst (v := 0) hx hb d_D_open_21 (by decide) ?_
  refine pf_D_locks C9 hW h0_0 l_D_40 d_D_open_22 (fun H locs hW => ?_)
  obtain ⟨M5, hM5, hf⟩ := rd_k_el hf
  rw [← hM5] at hW
  refine lv_aload_n hx hb d_D_open_25 rfl (lv_at hl 0 rfl) ?_
  refine lv_iconst (v := 0) hx hb d_D_open_26 (by decide) ?_
  refine lv_iconst (v := (-1)) hx hb d_D_open_27 (by decide) ?_
  obtain ⟨r6, qr6, hf⟩ := rd_bind hf
  refine rd_callV (As := [.int 0, .int (-1)]) (rest := []) rd_gd C9 hTh hW (c_D_enter hls r0_0 0 (-1) h0_0 qr6) kc_D_enter ki_D_enter ks_D_enter l_D_43 rfl (lt_D h0_0) (ce_D h0_0) rfl ⟨Nat.le_of_ble_eq_true rfl, Nat.le_of_ble_eq_true rfl⟩ ⟨Nat.le_of_ble_eq_true rfl, Nat.le_of_ble_eq_true rfl⟩ hl.1 rfl (Nat.le_of_ble_eq_true rfl) d_D_open_28 (fun E _ _ _ _ hex => hex.elim) (fun rr MM H locs hp hW => ?_)
  obtain ⟨rfl, rfl⟩ := hp
  refine lv_aload_n hx hb d_D_open_31 rfl (lv_at hl 0 rfl) ?_
  refine lv_iconst (v := (-1)) hx hb d_D_open_32 (by decide) ?_
  refine pf_D_transferFor C9 hW h0_0 l_D_47 d_D_open_33 (fun H locs hW => ?_)
  obtain ⟨M7, hM7, hf⟩ := rd_k_el hf
  rw [← hM7] at hW
  refine lv_aload_n hx hb d_D_open_36 rfl (lv_at hl 0 rfl) ?_
  refine lv_iconst (v := (-1)) hx hb d_D_open_37 (by decide) ?_
  refine pf_D_transferTill C9 hW h0_0 l_D_50 d_D_open_38 (fun H locs hW => ?_)
  obtain ⟨M8, hM8, hf⟩ := rd_k_el hf
  rw [← hM8] at hW
  refine lv_aload_n hx hb d_D_open_41 rfl (lv_at hl 0 rfl) ?_
  refine gf_D_rows C9 hW h0_0 l_D_11 d_D_open_42 ?_
  refine lv_iconst (v := 0) hx hb d_D_open_45 (by decide) ?_
  refine al_rows C9 hW h0_0 (i := 0) (by decide) (show rd_in 0 2 by decide) d_D_open_46 ?_
  refine lv_iconst (v := 0) hx hb d_D_open_47 (by decide) ?_
  refine pf_R_size C9 hW h0_0 (by decide) l_D_53 d_D_open_48 (fun H locs hW => ?_)
  obtain ⟨M9, hM9, hf⟩ := rd_k_el hf
  rw [← hM9] at hW
  refine lv_aload_n hx hb d_D_open_51 rfl (lv_at hl 0 rfl) ?_
  refine gf_D_rows C9 hW h0_0 l_D_11 d_D_open_52 ?_
  refine lv_iconst (v := 0) hx hb d_D_open_55 (by decide) ?_
  refine al_rows C9 hW h0_0 (i := 0) (by decide) (show rd_in 0 2 by decide) d_D_open_56 ?_
  refine lv_iload hx hb d_D_open_57 (lv_at hl 4 rfl) ?_
  obtain ⟨r10, qr10, hf⟩ := rd_bind hf
  refine rd_callV (As := [.int p4]) (rest := []) rd_gd C9 hTh hW (c_R_append hls r0_0 0 p4 h0_0 (by decide) qr10) kc_R_append ki_R_append ks_R_append l_D_56 rfl (lt_R h0_0 (by decide)) (ce_R h0_0 (by decide)) rfl ⟨Nat.le_of_ble_eq_true rfl, Nat.le_of_ble_eq_true rfl⟩ ⟨Nat.le_of_ble_eq_true rfl, Nat.le_of_ble_eq_true rfl⟩ hl.1 rfl (Nat.le_of_ble_eq_true rfl) d_D_open_59 (fun E _ _ _ _ hex => hex.elim) (fun rr MM H locs hp hW => ?_)
  obtain ⟨rfl, rfl⟩ := hp
  refine lv_aload_n hx hb d_D_open_62 rfl (lv_at hl 0 rfl) ?_
  refine gf_D_rows C9 hW h0_0 l_D_11 d_D_open_63 ?_
  refine lv_iconst (v := 1) hx hb d_D_open_66 (by decide) ?_
  refine al_rows C9 hW h0_0 (i := 1) (by decide) (show rd_in 1 2 by decide) d_D_open_67 ?_
  refine lv_iconst (v := 0) hx hb d_D_open_68 (by decide) ?_
  refine pf_R_size C9 hW h0_0 (by decide) l_D_53 d_D_open_69 (fun H locs hW => ?_)
  obtain ⟨M11, hM11, hf⟩ := rd_k_el hf
  rw [← hM11] at hW
  refine lv_aload_n hx hb d_D_open_72 rfl (lv_at hl 0 rfl) ?_
  obtain ⟨r12, qr12, hf⟩ := rd_bind hf
  refine rd_callV (As := []) (rest := []) rd_gd C9 hTh hW (c_D_clearGraces hls r0_0 h0_0 qr12) kc_D_clearGraces ki_D_clearGraces ks_D_clearGraces l_D_60 rfl (lt_D h0_0) (ce_D h0_0) rfl ⟨Nat.le_of_ble_eq_true rfl, Nat.le_of_ble_eq_true rfl⟩ ⟨Nat.le_of_ble_eq_true rfl, Nat.le_of_ble_eq_true rfl⟩ hl.1 rfl (Nat.le_of_ble_eq_true rfl) d_D_open_73 (fun E _ _ _ _ hex => hex.elim) (fun rr MM H locs hp hW => ?_)
  obtain ⟨rfl, rfl⟩ := hp
  obtain rfl := Option.some.inj hf
  exact rd_vret C9 hlk hret hW ⟨rfl, rfl⟩ (by decide) (by decide) d_D_open_76
def lb_R_placeOf_2 (M : rd_M) (q0_0 : Nat) (q0_1 : Nat) (q1 : Int32) (Kf : Int32 → Option (Int32)) (rec : Int32 → Option (Int32)) (v2_2 : Int32) : Option (Int32) :=
  if ((M (39 + 8 * q0_0 + 2 * q0_1)).1 1) ≤ v2_2 then
    Kf v2_2
  else
    if rd_in v2_2 3 then
    if ((M (40 + 8 * q0_0 + 2 * q0_1)).1 v2_2.toNatClampNeg) = q1 then
      some v2_2
    else
      rec (v2_2 + 1)
    else none
def f_R_placeOf (M : rd_M) (r0_0 : Nat) (r0_1 : Nat) (p1 : Int32) : Option (Int32) :=
  rd_it (fun _ => none) (lb_R_placeOf_2 M r0_0 r0_1 p1 (fun w2_2 =>
    some (-1))) 64 0
set_option maxRecDepth 100000 in
set_option maxHeartbeats 4000000 in
theorem c_R_placeOf {l : Launch} (hls : l.stackTraces = false) {D : va_G} {Ka : Nat → ClassId} {ad : Nat → Nat} {M : rd_M} (r0_0 : Nat) (r0_1 : Nat) (p1 : Int32) (h0_0 : r0_0 < 10) (h0_1 : r0_1 < 2) {o : Int32} (hf : f_R_placeOf M r0_0 r0_1 p1 = some o) :
    rd_Met l y_R_placeOf b_R_placeOf 3 (some .int) (0, 0, 0, 0) rd_T rd_ss D rd_cl (rd_ty Ka) (dk_L Ka) ad M [.ref (ad (39 + 8 * r0_0 + 2 * r0_1)), .int p1] (fun r M1 => r = some (.int o) ∧ M = M1) (fun _ => False) := by
  refine rd_body (by decide) (Nat.le_of_ble_eq_true rfl) ?_
  intro p e s m below meth c C9 hlk hret hnt hTh hW ls hl
  have hx := C9.1.1
  have hb := C9.1.2.1
  have hl : lv_has ls 3 [(0, .ref (ad (39 + 8 * r0_0 + 2 * r0_1))), (1, .int p1)] := hl
  unfold f_R_placeOf at hf
  refine lv_iconst (v := 0) hx hb d_R_placeOf_0 (by decide) ?_
  refine lv_istore_n (lv' := [(2, .int 0), (0, .ref (ad (39 + 8 * r0_0 + 2 * r0_1))), (1, .int p1)]) hx hb d_R_placeOf_1 rfl hl (by decide) rfl (fun ls hl => ?_)
  have loop_2 : ∀ (Kf : Int32 → Option (Int32)) (hk_2 : ∀ (w2_2 : Int32) (H : Heap) (locs : List Loc) (ls : Array Slot), Kf w2_2 = some o → rd_W D rd_cl (dk_L Ka) ad (rd_A (dk_L Ka) ad s.heap.size) s.heap M H locs → lv_has ls 3 [(2, .int w2_2), (0, .ref (ad (39 + 8 * r0_0 + 2 * r0_1))), (1, .int p1)] → W p l e { frames := 0, cells := 0, slots := 0, locals := 0 } s m [.ref (ad (39 + 8 * r0_0 + 2 * r0_1)), .int p1].toArray below meth c H locs 0 0 (rd_Z below (rd_O D rd_cl (dk_L Ka) ad M (rd_A (dk_L Ka) ad s.heap.size) 0 0 (fun r M1 => r = some (.int o) ∧ M = M1) (fun _ => False)) s) (F0 m 28 ls [])) (fu : Nat) (v2_2 : Int32) (H : Heap) (locs : List Loc) (ls : Array Slot), rd_it (fun _ => none) (lb_R_placeOf_2 M r0_0 r0_1 p1 Kf) fu v2_2 = some o → rd_W D rd_cl (dk_L Ka) ad (rd_A (dk_L Ka) ad s.heap.size) s.heap M H locs → lv_has ls 3 [(2, .int v2_2), (0, .ref (ad (39 + 8 * r0_0 + 2 * r0_1))), (1, .int p1)] → W p l e { frames := 0, cells := 0, slots := 0, locals := 0 } s m [.ref (ad (39 + 8 * r0_0 + 2 * r0_1)), .int p1].toArray below meth c H locs 0 0 (rd_Z below (rd_O D rd_cl (dk_L Ka) ad M (rd_A (dk_L Ka) ad s.heap.size) 0 0 (fun r M1 => r = some (.int o) ∧ M = M1) (fun _ => False)) s) (F0 m 2 ls []) := by
    intro Kf hk_2 fu
    induction fu with
    | zero => intro _ H locs ls hf; exact (rd_nf hf).elim
    | succ fu ih_2 =>
      intro v2_2 H locs ls hf hW hl
      rw [rd_it_s] at hf
      unfold lb_R_placeOf_2 at hf
      refine lv_iload_n hx hb d_R_placeOf_2 rfl (lv_at hl 0 rfl) ?_
      refine lv_aload_n hx hb d_R_placeOf_3 rfl (lv_at hl 1 rfl) ?_
      refine gf_R_size C9 hW h0_0 h0_1 l_R_15 d_R_placeOf_4 ?_
      refine lv_icmp_ge (tgt := 28) hx hb d_R_placeOf_7 (by decide) (fun c4 => ?_) (fun c4 => ?_)
      · have hf := rd_t hf c4
        exact hk_2 _ _ _ _ hf hW (lv_sub hl [0, 1, 2] rfl)
      · have hf := rd_f hf c4
        refine lv_aload_n hx hb d_R_placeOf_10 rfl (lv_at hl 1 rfl) ?_
        refine gf_R_numbers C9 hW h0_0 h0_1 l_R_9 d_R_placeOf_11 ?_
        refine lv_iload_n hx hb d_R_placeOf_14 rfl (lv_at hl 0 rfl) ?_
        obtain ⟨g5, hf⟩ := rd_g hf
        refine al_numbers C9 hW h0_0 h0_1 rfl g5 d_R_placeOf_15 ?_
        refine lv_iload_n hx hb d_R_placeOf_16 rfl (lv_at hl 2 rfl) ?_
        refine lv_icmp_ne (tgt := 22) hx hb d_R_placeOf_17 (by decide) (fun c6 => ?_) (fun c6 => ?_)
        · have hf := rd_f hf c6
          refine lv_iinc (v := v2_2 + 1) (lv' := [(2, .int (v2_2 + 1)), (0, .ref (ad (39 + 8 * r0_0 + 2 * r0_1))), (1, .int p1)]) hx hb d_R_placeOf_22 hl (k := 0) rfl rfl (by decide) rfl (fun ls hl => ?_)
          refine lv_goto (tgt := 2) hx hb d_R_placeOf_25 (by decide) ?_
          exact ih_2 _ _ _ _ hf hW (lv_sub hl [0, 1, 2] rfl)
        · have hf := rd_t hf c6
          refine lv_iload_n hx hb d_R_placeOf_20 rfl (lv_at hl 0 rfl) ?_
          obtain rfl := Option.some.inj hf
          exact rd_iret C9 hlk hret hW ⟨rfl, rfl⟩ (by decide) (by decide) d_R_placeOf_21
  refine loop_2 _ ?_ 64 _ _ _ _ hf hW (lv_sub hl [0, 1, 2] rfl)
  intro w2_2 H locs ls hf hW hl
  refine lv_iconst (v := (-1)) hx hb d_R_placeOf_28 (by decide) ?_
  obtain rfl := Option.some.inj hf
  exact rd_iret C9 hlk hret hW ⟨rfl, rfl⟩ (by decide) (by decide) d_R_placeOf_29
def f_D_uses (M : rd_M) (r0_0 : Nat) (p1 : Int32) (p2 : Int32) : Option (Int32) :=
  if ((M (37 + 8 * r0_0)).1 3) = 0 then
    some 0
  else
    if rd_in p1 2 then
    (f_R_placeOf M r0_0 p1.toNatClampNeg p2).bind fun r3 =>
    rd_k (if r3 = (-1) then 0 else 1 : Int32) fun z5 =>
    some z5
    else none
set_option maxRecDepth 100000 in
set_option maxHeartbeats 4000000 in
theorem c_D_uses {l : Launch} (hls : l.stackTraces = false) {D : va_G} {Ka : Nat → ClassId} {ad : Nat → Nat} {M : rd_M} (r0_0 : Nat) (p1 : Int32) (p2 : Int32) (h0_0 : r0_0 < 10) {o : Int32} (hf : f_D_uses M r0_0 p1 p2 = some o) :
    rd_Met l y_D_uses b_D_uses 3 (some .boolean) (1, 22, 0, 0) rd_T rd_ss D rd_cl (rd_ty Ka) (dk_L Ka) ad M [.ref (ad (37 + 8 * r0_0)), .int p1, .int p2] (fun r M1 => r = some (.int o) ∧ M = M1) (fun _ => False) := by
  refine rd_body (by decide) (Nat.le_of_ble_eq_true rfl) ?_
  intro p e s m below meth c C9 hlk hret hnt hTh hW ls hl
  have hx := C9.1.1
  have hb := C9.1.2.1
  have hl : lv_has ls 3 [(0, .ref (ad (37 + 8 * r0_0))), (1, .int p1), (2, .int p2)] := hl
  unfold f_D_uses at hf
  refine lv_aload_n hx hb d_D_uses_0 rfl (lv_at hl 0 rfl) ?_
  refine gf_D_there C9 hW h0_0 l_D_26 d_D_uses_1 ?_
  refine lv_if_eq (tgt := 25) hx hb d_D_uses_4 (by decide) (fun c1 => ?_) (fun c1 => ?_)
  · have hf := rd_t hf c1
    refine lv_iconst (v := 0) hx hb d_D_uses_25 (by decide) ?_
    obtain rfl := Option.some.inj hf
    exact rd_zret C9 hlk hret hW (Or.inl rfl) ⟨rfl, rfl⟩ (by decide) (by decide) d_D_uses_26
  · have hf := rd_f hf c1
    refine lv_aload_n hx hb d_D_uses_7 rfl (lv_at hl 0 rfl) ?_
    refine gf_D_rows C9 hW h0_0 l_D_11 d_D_uses_8 ?_
    refine lv_iload_n hx hb d_D_uses_11 rfl (lv_at hl 1 rfl) ?_
    obtain ⟨g2, hf⟩ := rd_g hf
    refine al_rows C9 hW h0_0 rfl g2 d_D_uses_12 ?_
    refine lv_iload_n hx hb d_D_uses_13 rfl (lv_at hl 2 rfl) ?_
    obtain ⟨r3, qr3, hf⟩ := rd_bind hf
    refine rd_callV (As := [.int p2]) (rest := []) rd_gd C9 hTh hW (c_R_placeOf hls r0_0 p1.toNatClampNeg p2 h0_0 (rd_lt g2) qr3) kc_R_placeOf ki_R_placeOf ks_R_placeOf l_D_69 rfl (lt_R h0_0 (rd_lt g2)) (ce_R h0_0 (rd_lt g2)) rfl ⟨Nat.le_of_ble_eq_true rfl, Nat.le_of_ble_eq_true rfl⟩ ⟨Nat.le_of_ble_eq_true rfl, Nat.le_of_ble_eq_true rfl⟩ hl.1 rfl (Nat.le_of_ble_eq_true rfl) d_D_uses_14 (fun E _ _ _ _ hex => hex.elim) (fun rr MM H locs hp hW => ?_)
    obtain ⟨rfl, rfl⟩ := hp
    refine lv_iconst (v := (-1)) hx hb d_D_uses_17 (by decide) ?_
    obtain ⟨z5, hz5, hf⟩ := rd_k_el hf
    refine rd_sel z5 (fun z => F0 m 26 ls (.int z :: [])) hz5 (fun hJ => ?_) ?_
    · refine lv_icmp_eq (tgt := 25) hx hb d_D_uses_18 (by decide) (fun c4 => ?_) (fun c4 => ?_)
      · have hJ := rd_selt (g := (fun z => F0 m 26 ls (.int z :: []))) hJ c4
        refine lv_iconst (v := 0) hx hb d_D_uses_25 (by decide) ?_
        exact hJ
      · have hJ := rd_self (g := (fun z => F0 m 26 ls (.int z :: []))) hJ c4
        refine lv_iconst (v := 1) hx hb d_D_uses_21 (by decide) ?_
        refine lv_goto (tgt := 26) hx hb d_D_uses_22 (by decide) ?_
        exact hJ
    have hb9 : z5 = 0 ∨ z5 = 1 := by rw [hz5]; split <;> simp
    obtain rfl := Option.some.inj hf
    exact rd_zret C9 hlk hret hW hb9 ⟨rfl, rfl⟩ (by decide) (by decide) d_D_uses_26
def f_D_isDelegated (M : rd_M) (r0_0 : Nat) : Option (Int32) :=
  if ((M (37 + 8 * r0_0)).1 3) = 0 then
    some 0
  else
    if ((M (37 + 8 * r0_0)).1 8) = 0 then
      if (((M (37 + 8 * r0_0)).1 7) &&& 16) = 0 then
        rd_k (if ((M (39 + 8 * r0_0 + 2 * 1)).1 1) ≤ 0 then 0 else 1 : Int32) fun z5 =>
        some z5
      else
        some 0
    else
      some 0
set_option maxRecDepth 100000 in
set_option maxHeartbeats 4000000 in
theorem c_D_isDelegated {l : Launch} (hls : l.stackTraces = false) {D : va_G} {Ka : Nat → ClassId} {ad : Nat → Nat} {M : rd_M} (r0_0 : Nat) (h0_0 : r0_0 < 10) {o : Int32} (hf : f_D_isDelegated M r0_0 = some o) :
    rd_Met l y_D_isDelegated b_D_isDelegated 1 (some .boolean) (0, 0, 0, 0) rd_T rd_ss D rd_cl (rd_ty Ka) (dk_L Ka) ad M [.ref (ad (37 + 8 * r0_0))] (fun r M1 => r = some (.int o) ∧ M = M1) (fun _ => False) := by
  refine rd_body (by decide) (Nat.le_of_ble_eq_true rfl) ?_
  intro p e s m below meth c C9 hlk hret hnt hTh hW ls hl
  have hx := C9.1.1
  have hb := C9.1.2.1
  have hl : lv_has ls 1 [(0, .ref (ad (37 + 8 * r0_0)))] := hl
  unfold f_D_isDelegated at hf
  refine lv_aload_n hx hb d_D_isDelegated_0 rfl (lv_at hl 0 rfl) ?_
  refine gf_D_there C9 hW h0_0 l_D_26 d_D_isDelegated_1 ?_
  refine lv_if_eq (tgt := 40) hx hb d_D_isDelegated_4 (by decide) (fun c1 => ?_) (fun c1 => ?_)
  · have hf := rd_t hf c1
    refine lv_iconst (v := 0) hx hb d_D_isDelegated_40 (by decide) ?_
    obtain rfl := Option.some.inj hf
    exact rd_zret C9 hlk hret hW (Or.inl rfl) ⟨rfl, rfl⟩ (by decide) (by decide) d_D_isDelegated_41
  · have hf := rd_f hf c1
    refine lv_aload_n hx hb d_D_isDelegated_7 rfl (lv_at hl 0 rfl) ?_
    refine gf_D_state C9 hW h0_0 l_D_63 d_D_isDelegated_8 ?_
    refine lv_if_ne (tgt := 40) hx hb d_D_isDelegated_11 (by decide) (fun c2 => ?_) (fun c2 => ?_)
    · have hf := rd_f hf c2
      refine lv_iconst (v := 0) hx hb d_D_isDelegated_40 (by decide) ?_
      obtain rfl := Option.some.inj hf
      exact rd_zret C9 hlk hret hW (Or.inl rfl) ⟨rfl, rfl⟩ (by decide) (by decide) d_D_isDelegated_41
    · have hf := rd_t hf c2
      refine lv_aload_n hx hb d_D_isDelegated_14 rfl (lv_at hl 0 rfl) ?_
      refine gf_D_locks C9 hW h0_0 l_D_40 d_D_isDelegated_15 ?_
      refine lv_bipush (v := 16) hx hb d_D_isDelegated_18 (by decide) ?_
      refine lv_iand hx hb d_D_isDelegated_20 ?_
      refine lv_if_ne (tgt := 40) hx hb d_D_isDelegated_21 (by decide) (fun c3 => ?_) (fun c3 => ?_)
      · have hf := rd_f hf c3
        refine lv_iconst (v := 0) hx hb d_D_isDelegated_40 (by decide) ?_
        obtain rfl := Option.some.inj hf
        exact rd_zret C9 hlk hret hW (Or.inl rfl) ⟨rfl, rfl⟩ (by decide) (by decide) d_D_isDelegated_41
      · have hf := rd_t hf c3
        refine lv_aload_n hx hb d_D_isDelegated_24 rfl (lv_at hl 0 rfl) ?_
        refine gf_D_rows C9 hW h0_0 l_D_11 d_D_isDelegated_25 ?_
        refine lv_iconst (v := 1) hx hb d_D_isDelegated_28 (by decide) ?_
        refine al_rows C9 hW h0_0 (i := 1) (by decide) (show rd_in 1 2 by decide) d_D_isDelegated_29 ?_
        refine gf_R_size C9 hW h0_0 (by decide) l_D_53 d_D_isDelegated_30 ?_
        obtain ⟨z5, hz5, hf⟩ := rd_k_el hf
        refine rd_sel z5 (fun z => F0 m 41 ls (.int z :: [])) hz5 (fun hJ => ?_) ?_
        · refine lv_if_le (tgt := 40) hx hb d_D_isDelegated_33 (by decide) (fun c4 => ?_) (fun c4 => ?_)
          · have hJ := rd_selt (g := (fun z => F0 m 41 ls (.int z :: []))) hJ c4
            refine lv_iconst (v := 0) hx hb d_D_isDelegated_40 (by decide) ?_
            exact hJ
          · have hJ := rd_self (g := (fun z => F0 m 41 ls (.int z :: []))) hJ c4
            refine lv_iconst (v := 1) hx hb d_D_isDelegated_36 (by decide) ?_
            refine lv_goto (tgt := 41) hx hb d_D_isDelegated_37 (by decide) ?_
            exact hJ
        have hb9 : z5 = 0 ∨ z5 = 1 := by rw [hz5]; split <;> simp
        obtain rfl := Option.some.inj hf
        exact rd_zret C9 hlk hret hW hb9 ⟨rfl, rfl⟩ (by decide) (by decide) d_D_isDelegated_41
def f_D_graceIsOn (M : rd_M) (r0_0 : Nat) (p1 : Int32) (p2 : Int32) : Option (Int32) :=
  if rd_in p1 5 then
  rd_k (if ((M (44 + 8 * r0_0)).1 p1.toNatClampNeg) < p2 then 0 else 1 : Int32) fun z3 =>
  some z3
  else none
set_option maxRecDepth 100000 in
set_option maxHeartbeats 4000000 in
theorem c_D_graceIsOn {l : Launch} (hls : l.stackTraces = false) {D : va_G} {Ka : Nat → ClassId} {ad : Nat → Nat} {M : rd_M} (r0_0 : Nat) (p1 : Int32) (p2 : Int32) (h0_0 : r0_0 < 10) {o : Int32} (hf : f_D_graceIsOn M r0_0 p1 p2 = some o) :
    rd_Met l y_D_graceIsOn b_D_graceIsOn 3 (some .boolean) (0, 0, 0, 0) rd_T rd_ss D rd_cl (rd_ty Ka) (dk_L Ka) ad M [.ref (ad (37 + 8 * r0_0)), .int p1, .int p2] (fun r M1 => r = some (.int o) ∧ M = M1) (fun _ => False) := by
  refine rd_body (by decide) (Nat.le_of_ble_eq_true rfl) ?_
  intro p e s m below meth c C9 hlk hret hnt hTh hW ls hl
  have hx := C9.1.1
  have hb := C9.1.2.1
  have hl : lv_has ls 3 [(0, .ref (ad (37 + 8 * r0_0))), (1, .int p1), (2, .int p2)] := hl
  unfold f_D_graceIsOn at hf
  refine lv_iload_n hx hb d_D_graceIsOn_0 rfl (lv_at hl 2 rfl) ?_
  refine lv_aload_n hx hb d_D_graceIsOn_1 rfl (lv_at hl 0 rfl) ?_
  refine gf_D_graceEnd C9 hW h0_0 l_D_22 d_D_graceIsOn_2 ?_
  refine lv_iload_n hx hb d_D_graceIsOn_5 rfl (lv_at hl 1 rfl) ?_
  obtain ⟨g1, hf⟩ := rd_g hf
  refine al_graceEnd C9 hW h0_0 rfl g1 d_D_graceIsOn_6 ?_
  obtain ⟨z3, hz3, hf⟩ := rd_k_el hf
  refine rd_sel z3 (fun z => F0 m 15 ls (.int z :: [])) hz3 (fun hJ => ?_) ?_
  · refine lv_icmp_gt (tgt := 14) hx hb d_D_graceIsOn_7 (by decide) (fun c2 => ?_) (fun c2 => ?_)
    · have hJ := rd_selt (g := (fun z => F0 m 15 ls (.int z :: []))) hJ c2
      refine lv_iconst (v := 0) hx hb d_D_graceIsOn_14 (by decide) ?_
      exact hJ
    · have hJ := rd_self (g := (fun z => F0 m 15 ls (.int z :: []))) hJ c2
      refine lv_iconst (v := 1) hx hb d_D_graceIsOn_10 (by decide) ?_
      refine lv_goto (tgt := 15) hx hb d_D_graceIsOn_11 (by decide) ?_
      exact hJ
  have hb9 : z3 = 0 ∨ z3 = 1 := by rw [hz3]; split <;> simp
  obtain rfl := Option.some.inj hf
  exact rd_zret C9 hlk hret hW hb9 ⟨rfl, rfl⟩ (by decide) (by decide) d_D_graceIsOn_15
def lb_D_gracesOn_4 (M : rd_M) (q0_0 : Nat) (q1 : Int32) (Kf : Int32 → Int32 → Option (Int32)) (rec : Int32 → Int32 → Option (Int32)) (v4_3 : Int32) (v4_2 : Int32) : Option (Int32) :=
  if 5 ≤ v4_3 then
    Kf v4_3 v4_2
  else
    (f_D_graceIsOn M q0_0 v4_3 q1).bind fun r2 =>
    if r2 = 0 then
      rec (v4_3 + 1) v4_2
    else
      rec (v4_3 + 1) (v4_2 + (1 <<< (v4_3 &&& 31)))
def f_D_gracesOn (M : rd_M) (r0_0 : Nat) (p1 : Int32) : Option (Int32) :=
  rd_it (fun _ _ => none) (lb_D_gracesOn_4 M r0_0 p1 (fun w4_3 w4_2 =>
    some w4_2)) 64 0 0
set_option maxRecDepth 100000 in
set_option maxHeartbeats 4000000 in
theorem c_D_gracesOn {l : Launch} (hls : l.stackTraces = false) {D : va_G} {Ka : Nat → ClassId} {ad : Nat → Nat} {M : rd_M} (r0_0 : Nat) (p1 : Int32) (h0_0 : r0_0 < 10) {o : Int32} (hf : f_D_gracesOn M r0_0 p1 = some o) :
    rd_Met l y_D_gracesOn b_D_gracesOn 4 (some .int) (1, 22, 0, 0) rd_T rd_ss D rd_cl (rd_ty Ka) (dk_L Ka) ad M [.ref (ad (37 + 8 * r0_0)), .int p1] (fun r M1 => r = some (.int o) ∧ M = M1) (fun _ => False) := by
  refine rd_body (by decide) (Nat.le_of_ble_eq_true rfl) ?_
  intro p e s m below meth c C9 hlk hret hnt hTh hW ls hl
  have hx := C9.1.1
  have hb := C9.1.2.1
  have hl : lv_has ls 4 [(0, .ref (ad (37 + 8 * r0_0))), (1, .int p1)] := hl
  unfold f_D_gracesOn at hf
  refine lv_iconst (v := 0) hx hb d_D_gracesOn_0 (by decide) ?_
  refine lv_istore_n (lv' := [(2, .int 0), (0, .ref (ad (37 + 8 * r0_0))), (1, .int p1)]) hx hb d_D_gracesOn_1 rfl hl (by decide) rfl (fun ls hl => ?_)
  refine lv_iconst (v := 0) hx hb d_D_gracesOn_2 (by decide) ?_
  refine lv_istore_n (lv' := [(3, .int 0), (2, .int 0), (0, .ref (ad (37 + 8 * r0_0))), (1, .int p1)]) hx hb d_D_gracesOn_3 rfl hl (by decide) rfl (fun ls hl => ?_)
  have loop_4 : ∀ (Kf : Int32 → Int32 → Option (Int32)) (hk_4 : ∀ (w4_3 : Int32) (w4_2 : Int32) (H : Heap) (locs : List Loc) (ls : Array Slot), Kf w4_3 w4_2 = some o → rd_W D rd_cl (dk_L Ka) ad (rd_A (dk_L Ka) ad s.heap.size) s.heap M H locs → lv_has ls 4 [(3, .int w4_3), (2, .int w4_2), (0, .ref (ad (37 + 8 * r0_0))), (1, .int p1)] → W p l e { frames := 1, cells := 0, slots := 0, locals := 22 } s m [.ref (ad (37 + 8 * r0_0)), .int p1].toArray below meth c H locs 0 0 (rd_Z below (rd_O D rd_cl (dk_L Ka) ad M (rd_A (dk_L Ka) ad s.heap.size) 0 0 (fun r M1 => r = some (.int o) ∧ M = M1) (fun _ => False)) s) (F0 m 30 ls [])) (fu : Nat) (v4_3 : Int32) (v4_2 : Int32) (H : Heap) (locs : List Loc) (ls : Array Slot), rd_it (fun _ _ => none) (lb_D_gracesOn_4 M r0_0 p1 Kf) fu v4_3 v4_2 = some o → rd_W D rd_cl (dk_L Ka) ad (rd_A (dk_L Ka) ad s.heap.size) s.heap M H locs → lv_has ls 4 [(3, .int v4_3), (2, .int v4_2), (0, .ref (ad (37 + 8 * r0_0))), (1, .int p1)] → W p l e { frames := 1, cells := 0, slots := 0, locals := 22 } s m [.ref (ad (37 + 8 * r0_0)), .int p1].toArray below meth c H locs 0 0 (rd_Z below (rd_O D rd_cl (dk_L Ka) ad M (rd_A (dk_L Ka) ad s.heap.size) 0 0 (fun r M1 => r = some (.int o) ∧ M = M1) (fun _ => False)) s) (F0 m 4 ls []) := by
    intro Kf hk_4 fu
    induction fu with
    | zero => intro _ _ H locs ls hf; exact (rd_nf hf).elim
    | succ fu ih_4 =>
      intro v4_3 v4_2 H locs ls hf hW hl
      rw [rd_it_s] at hf
      unfold lb_D_gracesOn_4 at hf
      refine lv_iload_n hx hb d_D_gracesOn_4 rfl (lv_at hl 0 rfl) ?_
      refine lv_iconst (v := 5) hx hb d_D_gracesOn_5 (by decide) ?_
      refine lv_icmp_ge (tgt := 30) hx hb d_D_gracesOn_6 (by decide) (fun c4 => ?_) (fun c4 => ?_)
      · have hf := rd_t hf c4
        exact hk_4 _ _ _ _ _ hf hW (lv_sub hl [0, 1, 2, 3] rfl)
      · have hf := rd_f hf c4
        refine lv_aload_n hx hb d_D_gracesOn_9 rfl (lv_at hl 2 rfl) ?_
        refine lv_iload_n hx hb d_D_gracesOn_10 rfl (lv_at hl 0 rfl) ?_
        refine lv_iload_n hx hb d_D_gracesOn_11 rfl (lv_at hl 3 rfl) ?_
        obtain ⟨r5, qr5, hf⟩ := rd_bind hf
        refine rd_callV (As := [.int v4_3, .int p1]) (rest := []) rd_gd C9 hTh hW (c_D_graceIsOn hls r0_0 v4_3 p1 h0_0 qr5) kc_D_graceIsOn ki_D_graceIsOn ks_D_graceIsOn l_D_77 rfl (lt_D h0_0) (ce_D h0_0) rfl ⟨Nat.le_of_ble_eq_true rfl, Nat.le_of_ble_eq_true rfl⟩ ⟨Nat.le_of_ble_eq_true rfl, Nat.le_of_ble_eq_true rfl⟩ hl.1 rfl (Nat.le_of_ble_eq_true rfl) d_D_gracesOn_12 (fun E _ _ _ _ hex => hex.elim) (fun rr MM H locs hp hW => ?_)
        obtain ⟨rfl, rfl⟩ := hp
        refine lv_if_eq (tgt := 24) hx hb d_D_gracesOn_15 (by decide) (fun c6 => ?_) (fun c6 => ?_)
        · have hf := rd_t hf c6
          refine lv_iinc (v := v4_3 + 1) (lv' := [(3, .int (v4_3 + 1)), (2, .int v4_2), (0, .ref (ad (37 + 8 * r0_0))), (1, .int p1)]) hx hb d_D_gracesOn_24 hl (k := 0) rfl rfl (by decide) rfl (fun ls hl => ?_)
          refine lv_goto (tgt := 4) hx hb d_D_gracesOn_27 (by decide) ?_
          exact ih_4 _ _ _ _ _ hf hW (lv_sub hl [0, 1, 2, 3] rfl)
        · have hf := rd_f hf c6
          refine lv_iload_n hx hb d_D_gracesOn_18 rfl (lv_at hl 1 rfl) ?_
          refine lv_iconst (v := 1) hx hb d_D_gracesOn_19 (by decide) ?_
          refine lv_iload_n hx hb d_D_gracesOn_20 rfl (lv_at hl 0 rfl) ?_
          refine lv_ishl hx hb d_D_gracesOn_21 ?_
          refine lv_iadd hx hb d_D_gracesOn_22 ?_
          refine lv_istore_n (lv' := [(2, .int (v4_2 + (1 <<< (v4_3 &&& 31)))), (3, .int v4_3), (0, .ref (ad (37 + 8 * r0_0))), (1, .int p1)]) hx hb d_D_gracesOn_23 rfl hl (by decide) rfl (fun ls hl => ?_)
          refine lv_iinc (v := v4_3 + 1) (lv' := [(3, .int (v4_3 + 1)), (2, .int (v4_2 + (1 <<< (v4_3 &&& 31)))), (0, .ref (ad (37 + 8 * r0_0))), (1, .int p1)]) hx hb d_D_gracesOn_24 hl (k := 1) rfl rfl (by decide) rfl (fun ls hl => ?_)
          refine lv_goto (tgt := 4) hx hb d_D_gracesOn_27 (by decide) ?_
          exact ih_4 _ _ _ _ _ hf hW (lv_sub hl [0, 1, 2, 3] rfl)
  refine loop_4 _ ?_ 64 _ _ _ _ _ hf hW (lv_sub hl [0, 1, 2, 3] rfl)
  intro w4_3 w4_2 H locs ls hf hW hl
  refine lv_iload_n hx hb d_D_gracesOn_30 rfl (lv_at hl 1 rfl) ?_
  obtain rfl := Option.some.inj hf
  exact rd_iret C9 hlk hret hW ⟨rfl, rfl⟩ (by decide) (by decide) d_D_gracesOn_31
def lb_D_graceCosts_5 (M : rd_M) (q0_0 : Nat) (q1 : Int32) (Kf : Int32 → UInt64 → Option (UInt64)) (rec : Int32 → UInt64 → Option (UInt64)) (v5_4 : Int32) (v5_2 : UInt64) : Option (UInt64) :=
  if 5 ≤ v5_4 then
    Kf v5_4 v5_2
  else
    (f_D_graceIsOn M q0_0 v5_4 q1).bind fun r2 =>
    if r2 = 0 then
      rec (v5_4 + 1) v5_2
    else
      if rd_in v5_4 5 then
      if rd_nn (FP.dadd v5_2 ((M (43 + 8 * q0_0)).2.2 v5_4.toNatClampNeg)) then
      rec (v5_4 + 1) (FP.dadd v5_2 ((M (43 + 8 * q0_0)).2.2 v5_4.toNatClampNeg))
      else none
      else none
def f_D_graceCosts (M : rd_M) (r0_0 : Nat) (p1 : Int32) : Option (UInt64) :=
  rd_it (fun _ _ => none) (lb_D_graceCosts_5 M r0_0 p1 (fun w5_4 w5_2 =>
    some w5_2)) 64 0 FP.dconst0
set_option maxRecDepth 100000 in
set_option maxHeartbeats 4000000 in
theorem c_D_graceCosts {l : Launch} (hls : l.stackTraces = false) {D : va_G} {Ka : Nat → ClassId} {ad : Nat → Nat} {M : rd_M} (r0_0 : Nat) (p1 : Int32) (h0_0 : r0_0 < 10) {o : UInt64} (hf : f_D_graceCosts M r0_0 p1 = some o) :
    rd_Met l y_D_graceCosts b_D_graceCosts 5 (some .double) (1, 22, 0, 0) rd_T rd_ss D rd_cl (rd_ty Ka) (dk_L Ka) ad M [.ref (ad (37 + 8 * r0_0)), .int p1] (fun r M1 => r = some (.double o) ∧ M = M1) (fun _ => False) := by
  refine rd_body (by decide) (Nat.le_of_ble_eq_true rfl) ?_
  intro p e s m below meth c C9 hlk hret hnt hTh hW ls hl
  have hx := C9.1.1
  have hb := C9.1.2.1
  have hl : lv_has ls 5 [(0, .ref (ad (37 + 8 * r0_0))), (1, .int p1)] := hl
  unfold f_D_graceCosts at hf
  refine lv_dconst0 hx hb d_D_graceCosts_0 ?_
  refine lv_dstore_n (lv' := [(2, .double FP.dconst0), (0, .ref (ad (37 + 8 * r0_0))), (1, .int p1)]) hx hb d_D_graceCosts_1 rfl hl (by decide) rfl (fun ls hl => ?_)
  refine lv_iconst (v := 0) hx hb d_D_graceCosts_2 (by decide) ?_
  refine lv_istore (lv' := [(4, .int 0), (2, .double FP.dconst0), (0, .ref (ad (37 + 8 * r0_0))), (1, .int p1)]) hx hb d_D_graceCosts_3 hl (by decide) rfl (fun ls hl => ?_)
  have loop_5 : ∀ (Kf : Int32 → UInt64 → Option (UInt64)) (hk_5 : ∀ (w5_4 : Int32) (w5_2 : UInt64) (H : Heap) (locs : List Loc) (ls : Array Slot), Kf w5_4 w5_2 = some o → rd_W D rd_cl (dk_L Ka) ad (rd_A (dk_L Ka) ad s.heap.size) s.heap M H locs → lv_has ls 5 [(4, .int w5_4), (2, .double w5_2), (0, .ref (ad (37 + 8 * r0_0))), (1, .int p1)] → W p l e { frames := 1, cells := 0, slots := 0, locals := 22 } s m [.ref (ad (37 + 8 * r0_0)), .int p1].toArray below meth c H locs 0 0 (rd_Z below (rd_O D rd_cl (dk_L Ka) ad M (rd_A (dk_L Ka) ad s.heap.size) 0 0 (fun r M1 => r = some (.double o) ∧ M = M1) (fun _ => False)) s) (F0 m 37 ls [])) (fu : Nat) (v5_4 : Int32) (v5_2 : UInt64) (H : Heap) (locs : List Loc) (ls : Array Slot), rd_it (fun _ _ => none) (lb_D_graceCosts_5 M r0_0 p1 Kf) fu v5_4 v5_2 = some o → rd_W D rd_cl (dk_L Ka) ad (rd_A (dk_L Ka) ad s.heap.size) s.heap M H locs → lv_has ls 5 [(4, .int v5_4), (2, .double v5_2), (0, .ref (ad (37 + 8 * r0_0))), (1, .int p1)] → W p l e { frames := 1, cells := 0, slots := 0, locals := 22 } s m [.ref (ad (37 + 8 * r0_0)), .int p1].toArray below meth c H locs 0 0 (rd_Z below (rd_O D rd_cl (dk_L Ka) ad M (rd_A (dk_L Ka) ad s.heap.size) 0 0 (fun r M1 => r = some (.double o) ∧ M = M1) (fun _ => False)) s) (F0 m 5 ls []) := by
    intro Kf hk_5 fu
    induction fu with
    | zero => intro _ _ H locs ls hf; exact (rd_nf hf).elim
    | succ fu ih_5 =>
      intro v5_4 v5_2 H locs ls hf hW hl
      rw [rd_it_s] at hf
      unfold lb_D_graceCosts_5 at hf
      refine lv_iload hx hb d_D_graceCosts_5 (lv_at hl 0 rfl) ?_
      refine lv_iconst (v := 5) hx hb d_D_graceCosts_7 (by decide) ?_
      refine lv_icmp_ge (tgt := 37) hx hb d_D_graceCosts_8 (by decide) (fun c5 => ?_) (fun c5 => ?_)
      · have hf := rd_t hf c5
        exact hk_5 _ _ _ _ _ hf hW (lv_sub hl [0, 1, 2, 3] rfl)
      · have hf := rd_f hf c5
        refine lv_aload_n hx hb d_D_graceCosts_11 rfl (lv_at hl 2 rfl) ?_
        refine lv_iload hx hb d_D_graceCosts_12 (lv_at hl 0 rfl) ?_
        refine lv_iload_n hx hb d_D_graceCosts_14 rfl (lv_at hl 3 rfl) ?_
        obtain ⟨r6, qr6, hf⟩ := rd_bind hf
        refine rd_callV (As := [.int v5_4, .int p1]) (rest := []) rd_gd C9 hTh hW (c_D_graceIsOn hls r0_0 v5_4 p1 h0_0 qr6) kc_D_graceIsOn ki_D_graceIsOn ks_D_graceIsOn l_D_77 rfl (lt_D h0_0) (ce_D h0_0) rfl ⟨Nat.le_of_ble_eq_true rfl, Nat.le_of_ble_eq_true rfl⟩ ⟨Nat.le_of_ble_eq_true rfl, Nat.le_of_ble_eq_true rfl⟩ hl.1 rfl (Nat.le_of_ble_eq_true rfl) d_D_graceCosts_15 (fun E _ _ _ _ hex => hex.elim) (fun rr MM H locs hp hW => ?_)
        obtain ⟨rfl, rfl⟩ := hp
        refine lv_if_eq (tgt := 31) hx hb d_D_graceCosts_18 (by decide) (fun c7 => ?_) (fun c7 => ?_)
        · have hf := rd_t hf c7
          refine lv_iinc (v := v5_4 + 1) (lv' := [(4, .int (v5_4 + 1)), (2, .double v5_2), (0, .ref (ad (37 + 8 * r0_0))), (1, .int p1)]) hx hb d_D_graceCosts_31 hl (k := 0) rfl rfl (by decide) rfl (fun ls hl => ?_)
          refine lv_goto (tgt := 5) hx hb d_D_graceCosts_34 (by decide) ?_
          exact ih_5 _ _ _ _ _ hf hW (lv_sub hl [0, 1, 2, 3] rfl)
        · have hf := rd_f hf c7
          refine lv_dload_n hx hb d_D_graceCosts_21 rfl (lv_at hl 1 rfl) ?_
          refine lv_aload_n hx hb d_D_graceCosts_22 rfl (lv_at hl 2 rfl) ?_
          refine gf_D_graceCost C9 hW h0_0 l_D_18 d_D_graceCosts_23 ?_
          refine lv_iload hx hb d_D_graceCosts_26 (lv_at hl 0 rfl) ?_
          obtain ⟨g8, hf⟩ := rd_g hf
          refine al_graceCost C9 hW h0_0 rfl g8 d_D_graceCosts_28 ?_
          obtain ⟨g_29, hf⟩ := rd_g hf
          refine lv_dadd hx hb d_D_graceCosts_29 g_29 ?_
          refine lv_dstore_n (lv' := [(2, .double (FP.dadd v5_2 ((M (43 + 8 * r0_0)).2.2 v5_4.toNatClampNeg))), (4, .int v5_4), (0, .ref (ad (37 + 8 * r0_0))), (1, .int p1)]) hx hb d_D_graceCosts_30 rfl hl (by decide) rfl (fun ls hl => ?_)
          refine lv_iinc (v := v5_4 + 1) (lv' := [(4, .int (v5_4 + 1)), (2, .double (FP.dadd v5_2 ((M (43 + 8 * r0_0)).2.2 v5_4.toNatClampNeg))), (0, .ref (ad (37 + 8 * r0_0))), (1, .int p1)]) hx hb d_D_graceCosts_31 hl (k := 1) rfl rfl (by decide) rfl (fun ls hl => ?_)
          refine lv_goto (tgt := 5) hx hb d_D_graceCosts_34 (by decide) ?_
          exact ih_5 _ _ _ _ _ hf hW (lv_sub hl [0, 1, 2, 3] rfl)
  refine loop_5 _ ?_ 64 _ _ _ _ _ hf hW (lv_sub hl [0, 1, 2, 3] rfl)
  intro w5_4 w5_2 H locs ls hf hW hl
  refine lv_dload_n hx hb d_D_graceCosts_37 rfl (lv_at hl 1 rfl) ?_
  obtain rfl := Option.some.inj hf
  exact rd_dret C9 hlk hret hW ⟨rfl, rfl⟩ (by decide) (by decide) d_D_graceCosts_38
def f_R_at (M : rd_M) (r0_0 : Nat) (r0_1 : Nat) (p1 : Int32) : Option (Int32) :=
  if p1 < 0 then
    some (-1)
  else
    if ((M (39 + 8 * r0_0 + 2 * r0_1)).1 1) ≤ p1 then
      some (-1)
    else
      if rd_in p1 3 then
      some ((M (40 + 8 * r0_0 + 2 * r0_1)).1 p1.toNatClampNeg)
      else none
set_option maxRecDepth 100000 in
set_option maxHeartbeats 4000000 in
theorem c_R_at {l : Launch} (hls : l.stackTraces = false) {D : va_G} {Ka : Nat → ClassId} {ad : Nat → Nat} {M : rd_M} (r0_0 : Nat) (r0_1 : Nat) (p1 : Int32) (h0_0 : r0_0 < 10) (h0_1 : r0_1 < 2) {o : Int32} (hf : f_R_at M r0_0 r0_1 p1 = some o) :
    rd_Met l y_R_at b_R_at 2 (some .int) (0, 0, 0, 0) rd_T rd_ss D rd_cl (rd_ty Ka) (dk_L Ka) ad M [.ref (ad (39 + 8 * r0_0 + 2 * r0_1)), .int p1] (fun r M1 => r = some (.int o) ∧ M = M1) (fun _ => False) := by
  refine rd_body (by decide) (Nat.le_of_ble_eq_true rfl) ?_
  intro p e s m below meth c C9 hlk hret hnt hTh hW ls hl
  have hx := C9.1.1
  have hb := C9.1.2.1
  have hl : lv_has ls 2 [(0, .ref (ad (39 + 8 * r0_0 + 2 * r0_1))), (1, .int p1)] := hl
  unfold f_R_at at hf
  refine lv_iload_n hx hb d_R_at_0 rfl (lv_at hl 1 rfl) ?_
  refine lv_if_lt (tgt := 21) hx hb d_R_at_1 (by decide) (fun c1 => ?_) (fun c1 => ?_)
  · have hf := rd_t hf c1
    refine lv_iconst (v := (-1)) hx hb d_R_at_21 (by decide) ?_
    obtain rfl := Option.some.inj hf
    exact rd_iret C9 hlk hret hW ⟨rfl, rfl⟩ (by decide) (by decide) d_R_at_22
  · have hf := rd_f hf c1
    refine lv_iload_n hx hb d_R_at_4 rfl (lv_at hl 1 rfl) ?_
    refine lv_aload_n hx hb d_R_at_5 rfl (lv_at hl 0 rfl) ?_
    refine gf_R_size C9 hW h0_0 h0_1 l_R_15 d_R_at_6 ?_
    refine lv_icmp_ge (tgt := 21) hx hb d_R_at_9 (by decide) (fun c2 => ?_) (fun c2 => ?_)
    · have hf := rd_t hf c2
      refine lv_iconst (v := (-1)) hx hb d_R_at_21 (by decide) ?_
      obtain rfl := Option.some.inj hf
      exact rd_iret C9 hlk hret hW ⟨rfl, rfl⟩ (by decide) (by decide) d_R_at_22
    · have hf := rd_f hf c2
      refine lv_aload_n hx hb d_R_at_12 rfl (lv_at hl 0 rfl) ?_
      refine gf_R_numbers C9 hW h0_0 h0_1 l_R_9 d_R_at_13 ?_
      refine lv_iload_n hx hb d_R_at_16 rfl (lv_at hl 1 rfl) ?_
      obtain ⟨g3, hf⟩ := rd_g hf
      refine al_numbers C9 hW h0_0 h0_1 rfl g3 d_R_at_17 ?_
      refine lv_goto (tgt := 22) hx hb d_R_at_18 (by decide) ?_
      obtain rfl := Option.some.inj hf
      exact rd_iret C9 hlk hret hW ⟨rfl, rfl⟩ (by decide) (by decide) d_R_at_22
