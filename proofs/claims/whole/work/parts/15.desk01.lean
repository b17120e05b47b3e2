def lb_R_takeOff_23 (q2 : Int32) (q0_0 : Nat) (q0_1 : Nat) (q1 : Int32) (Kf : Int32 → rd_M → Option (rd_M)) (rec : Int32 → rd_M → Option (rd_M)) (v23_3 : Int32) (v23_M : rd_M) : Option (rd_M) :=
  if ((v23_M (39 + 8 * q0_0 + 2 * q0_1)).1 1) ≤ v23_3 then
    Kf v23_3 v23_M
  else
    if rd_in (v23_3 + 1) 3 then
    if rd_in v23_3 3 then
    rd_k (rd_iU v23_M (40 + 8 * q0_0 + 2 * q0_1) v23_3.toNatClampNeg ((v23_M (40 + 8 * q0_0 + 2 * q0_1)).1 ((v23_3 + 1).toNatClampNeg))) fun M7 =>
    rec (v23_3 + 1) M7
    else none
    else none
def f_R_takeOff (M : rd_M) (r0_0 : Nat) (r0_1 : Nat) (p1 : Int32) : Option (rd_M) :=
  (f_R_placeOf M r0_0 r0_1 p1).bind fun r1 =>
  if r1 = (-1) then
    some M
  else
    rd_k (rd_iU M (39 + 8 * r0_0 + 2 * r0_1) 1 (((M (39 + 8 * r0_0 + 2 * r0_1)).1 1) - 1)) fun M3 =>
    rd_it (fun _ _ => none) (lb_R_takeOff_23 r1 r0_0 r0_1 p1 (fun w23_3 w23_M =>
      some w23_M)) 64 r1 M3
set_option maxRecDepth 100000 in
set_option maxHeartbeats 4000000 in
theorem c_R_takeOff {l : Launch} (hls : l.stackTraces = false) {D : va_G} {Ka : Nat → ClassId} {ad : Nat → Nat} {M : rd_M} (r0_0 : Nat) (r0_1 : Nat) (p1 : Int32) (h0_0 : r0_0 < 10) (h0_1 : r0_1 < 2) {o : rd_M} (hf : f_R_takeOff M r0_0 r0_1 p1 = some o) :
    rd_Met l y_R_takeOff b_R_takeOff 4 none (1, 22, 0, 0) rd_T rd_ss D rd_cl (rd_ty Ka) (dk_L Ka) ad M [.ref (ad (39 + 8 * r0_0 + 2 * r0_1)), .int p1] (fun r M1 => r = none ∧ o = M1) (fun _ => False) := by
  refine rd_body (by decide) (Nat.le_of_ble_eq_true rfl) ?_
  intro p e s m below meth c C9 hlk hret hnt hTh hW ls hl
  have hx := C9.1.1
  have hb := C9.1.2.1
  have hl : lv_has ls 4 [(0, .ref (ad (39 + 8 * r0_0 + 2 * r0_1))), (1, .int p1)] := hl
  unfold f_R_takeOff at hf
  refine lv_aload_n hx hb d_R_takeOff_0 rfl (lv_at hl 0 rfl) ?_
  refine lv_iload_n hx hb d_R_takeOff_1 rfl (lv_at hl 1 rfl) ?_
  obtain ⟨r1, qr1, hf⟩ := rd_bind hf
  refine rd_callV (As := [.int p1]) (rest := []) rd_gd C9 hTh hW (c_R_placeOf hls r0_0 r0_1 p1 h0_0 h0_1 qr1) kc_R_placeOf ki_R_placeOf ks_R_placeOf l_R_19 rfl (lt_R h0_0 h0_1) (ce_R h0_0 h0_1) rfl ⟨Nat.le_of_ble_eq_true rfl, Nat.le_of_ble_eq_true rfl⟩ ⟨Nat.le_of_ble_eq_true rfl, Nat.le_of_ble_eq_true rfl⟩ hl.1 rfl (Nat.le_of_ble_eq_true rfl) d_R_takeOff_2 (fun E _ _ _ _ hex => hex.elim) (fun rr MM H locs hp hW => ?_)
  obtain ⟨rfl, rfl⟩ := hp
  refine lv_istore_n (lv' := [(2, .int r1), (0, .ref (ad (39 + 8 * r0_0 + 2 * r0_1))), (1, .int p1)]) hx hb d_R_takeOff_5 rfl hl (by decide) rfl (fun ls hl => ?_)
  refine lv_iload_n hx hb d_R_takeOff_6 rfl (lv_at hl 0 rfl) ?_
  refine lv_iconst (v := (-1)) hx hb d_R_takeOff_7 (by decide) ?_
  refine lv_icmp_eq (tgt := 51) hx hb d_R_takeOff_8 (by decide) (fun c2 => ?_) (fun c2 => ?_)
  · have hf := rd_t hf c2
    obtain rfl := Option.some.inj hf
    exact rd_vret C9 hlk hret hW ⟨rfl, rfl⟩ (by decide) (by decide) d_R_takeOff_51
  · have hf := rd_f hf c2
    refine lv_aload_n hx hb d_R_takeOff_11 rfl (lv_at hl 1 rfl) ?_
    refine lv_dup hx hb d_R_takeOff_12 rfl ?_
    refine gf_R_size C9 hW h0_0 h0_1 l_R_15 d_R_takeOff_13 ?_
    refine lv_iconst (v := 1) hx hb d_R_takeOff_16 (by decide) ?_
    refine lv_isub hx hb d_R_takeOff_17 ?_
    refine pf_R_size C9 hW h0_0 h0_1 l_R_15 d_R_takeOff_18 (fun H locs hW => ?_)
    obtain ⟨M3, hM3, hf⟩ := rd_k_el hf
    rw [← hM3] at hW
    refine lv_iload_n hx hb d_R_takeOff_21 rfl (lv_at hl 0 rfl) ?_
    refine lv_istore_n (lv' := [(3, .int r1), (2, .int r1), (0, .ref (ad (39 + 8 * r0_0 + 2 * r0_1))), (1, .int p1)]) hx hb d_R_takeOff_22 rfl hl (by decide) rfl (fun ls hl => ?_)
    have loop_23 : ∀ (Kf : Int32 → rd_M → Option (rd_M)) (hk_23 : ∀ (w23_3 : Int32) (w23_M : rd_M) (H : Heap) (locs : List Loc) (ls : Array Slot), Kf w23_3 w23_M = some o → rd_W D rd_cl (dk_L Ka) ad (rd_A (dk_L Ka) ad s.heap.size) s.heap w23_M H locs → lv_has ls 4 [(3, .int w23_3), (2, .int r1), (0, .ref (ad (39 + 8 * r0_0 + 2 * r0_1))), (1, .int p1)] → W p l e { frames := 1, cells := 0, slots := 0, locals := 22 } s m [.ref (ad (39 + 8 * r0_0 + 2 * r0_1)), .int p1].toArray below meth c H locs 0 0 (rd_Z below (rd_O D rd_cl (dk_L Ka) ad M (rd_A (dk_L Ka) ad s.heap.size) 0 0 (fun r M1 => r = none ∧ o = M1) (fun _ => False)) s) (F0 m 51 ls [])) (fu : Nat) (v23_3 : Int32) (v23_M : rd_M) (H : Heap) (locs : List Loc) (ls : Array Slot), rd_it (fun _ _ => none) (lb_R_takeOff_23 r1 r0_0 r0_1 p1 Kf) fu v23_3 v23_M = some o → rd_W D rd_cl (dk_L Ka) ad (rd_A (dk_L Ka) ad s.heap.size) s.heap v23_M H locs → lv_has ls 4 [(3, .int v23_3), (2, .int r1), (0, .ref (ad (39 + 8 * r0_0 + 2 * r0_1))), (1, .int p1)] → W p l e { frames := 1, cells := 0, slots := 0, locals := 22 } s m [.ref (ad (39 + 8 * r0_0 + 2 * r0_1)), .int p1].toArray below meth c H locs 0 0 (rd_Z below (rd_O D rd_cl (dk_L Ka) ad M (rd_A (dk_L Ka) ad s.heap.size) 0 0 (fun r M1 => r = none ∧ o = M1) (fun _ => False)) s) (F0 m 23 ls []) := by
      intro Kf hk_23 fu
      induction fu with
      | zero => intro _ _ H locs ls hf; exact (rd_nf hf).elim
      | succ fu ih_23 =>
        intro v23_3 v23_M H locs ls hf hW hl
        rw [rd_it_s] at hf
        unfold lb_R_takeOff_23 at hf
        refine lv_iload_n hx hb d_R_takeOff_23 rfl (lv_at hl 0 rfl) ?_
        refine lv_aload_n hx hb d_R_takeOff_24 rfl (lv_at hl 2 rfl) ?_
        refine gf_R_size C9 hW h0_0 h0_1 l_R_15 d_R_takeOff_25 ?_
        refine lv_icmp_ge (tgt := 51) hx hb d_R_takeOff_28 (by decide) (fun c8 => ?_) (fun c8 => ?_)
        · have hf := rd_t hf c8
          exact hk_23 _ _ _ _ _ hf hW (lv_sub hl [0, 1, 2, 3] rfl)
        · have hf := rd_f hf c8
          refine lv_aload_n hx hb d_R_takeOff_31 rfl (lv_at hl 2 rfl) ?_
          refine gf_R_numbers C9 hW h0_0 h0_1 l_R_9 d_R_takeOff_32 ?_
          refine lv_iload_n hx hb d_R_takeOff_35 rfl (lv_at hl 0 rfl) ?_
          refine lv_aload_n hx hb d_R_takeOff_36 rfl (lv_at hl 2 rfl) ?_
          refine gf_R_numbers C9 hW h0_0 h0_1 l_R_9 d_R_takeOff_37 ?_
          refine lv_iload_n hx hb d_R_takeOff_40 rfl (lv_at hl 0 rfl) ?_
          refine lv_iconst (v := 1) hx hb d_R_takeOff_41 (by decide) ?_
          refine lv_iadd hx hb d_R_takeOff_42 ?_
          obtain ⟨g9, hf⟩ := rd_g hf
          refine al_numbers C9 hW h0_0 h0_1 rfl g9 d_R_takeOff_43 ?_
          obtain ⟨g10, hf⟩ := rd_g hf
          refine as_numbers C9 hW h0_0 h0_1 rfl g10 d_R_takeOff_44 (fun H locs hW => ?_)
          obtain ⟨M11, hM11, hf⟩ := rd_k_el hf
          rw [← hM11] at hW
          refine lv_iinc (v := v23_3 + 1) (lv' := [(3, .int (v23_3 + 1)), (2, .int r1), (0, .ref (ad (39 + 8 * r0_0 + 2 * r0_1))), (1, .int p1)]) hx hb d_R_takeOff_45 hl (k := 0) rfl rfl (by decide) rfl (fun ls hl => ?_)
          refine lv_goto (tgt := 23) hx hb d_R_takeOff_48 (by decide) ?_
          exact ih_23 _ _ _ _ _ hf hW (lv_sub hl [0, 1, 2, 3] rfl)
    refine loop_23 _ ?_ 64 _ _ _ _ _ hf hW (lv_sub hl [0, 1, 2, 3] rfl)
    intro w23_3 w23_M H locs ls hf hW hl
    obtain rfl := Option.some.inj hf
    exact rd_vret C9 hlk hret hW ⟨rfl, rfl⟩ (by decide) (by decide) d_R_takeOff_51
def f_K_requireRange (M : rd_M) (p0 : Int32) (p1 : Int32) (p2 : Int32) : Option (String ⊕ Unit) :=
  if p0 < p1 then
    some (.inl "java/lang/IllegalArgumentException")
  else
    if p0 ≤ p2 then
      some (.inr ())
    else
      some (.inl "java/lang/IllegalArgumentException")
set_option maxRecDepth 100000 in
set_option maxHeartbeats 4000000 in
theorem c_K_requireRange {l : Launch} (hls : l.stackTraces = false) {D : va_G} {Ka : Nat → ClassId} {ad : Nat → Nat} {M : rd_M} (p0 : Int32) (p1 : Int32) (p2 : Int32)  {o : String ⊕ Unit} (hf : f_K_requireRange M p0 p1 p2 = some o) :
    rd_Met l y_K_requireRange b_K_requireRange 3 none (6, 90, 1, 6) rd_T rd_ss D rd_cl (rd_ty Ka) (dk_L Ka) ad M [.int p0, .int p1, .int p2] (fun r M1 => ∃ v, o = .inr v ∧ r = none ∧ M = M1) (fun E => o = .inl E) := by
  refine rd_body (by decide) (Nat.le_of_ble_eq_true rfl) ?_
  intro p e s m below meth c C9 hlk hret hnt hTh hW ls hl
  have hx := C9.1.1
  have hb := C9.1.2.1
  have hl : lv_has ls 3 [(0, .int p0), (1, .int p1), (2, .int p2)] := hl
  unfold f_K_requireRange at hf
  refine lv_iload_n hx hb d_K_requireRange_0 rfl (lv_at hl 0 rfl) ?_
  refine lv_iload_n hx hb d_K_requireRange_1 rfl (lv_at hl 1 rfl) ?_
  refine lv_icmp_lt (tgt := 10) hx hb d_K_requireRange_2 (by decide) (fun c1 => ?_) (fun c1 => ?_)
  · have hf := rd_t hf c1
    obtain rfl := Option.some.inj hf
    exact rd_throwW (text := "a number is out of range") (names := ["java/lang/RuntimeException", "java/lang/Exception"]) hls C9 hnt hlk hTh hW hl.1 rd_gd (by decide) (by decide) l_K_272 in_IllegalArgumentException (List.mem_of_getElem? (i := 0) rfl) ta_K_IllegalArgumentException d_K_requireRange_10 d_K_requireRange_13 d_K_requireRange_14 d_K_requireRange_17 d_K_requireRange_20 (Nat.le_of_ble_eq_true rfl) (Nat.le_of_ble_eq_true rfl) (Nat.le_of_ble_eq_true rfl) (Nat.le_of_ble_eq_true rfl) rfl (Nat.le_of_ble_eq_true rfl) (Nat.le_of_ble_eq_true rfl)
  · have hf := rd_f hf c1
    refine lv_iload_n hx hb d_K_requireRange_5 rfl (lv_at hl 0 rfl) ?_
    refine lv_iload_n hx hb d_K_requireRange_6 rfl (lv_at hl 2 rfl) ?_
    refine lv_icmp_le (tgt := 21) hx hb d_K_requireRange_7 (by decide) (fun c2 => ?_) (fun c2 => ?_)
    · have hf := rd_t hf c2
      obtain rfl := Option.some.inj hf
      exact rd_vret C9 hlk hret hW ⟨_, rfl, rfl, rfl⟩ (by decide) (by decide) d_K_requireRange_21
    · have hf := rd_f hf c2
      obtain rfl := Option.some.inj hf
      exact rd_throwW (text := "a number is out of range") (names := ["java/lang/RuntimeException", "java/lang/Exception"]) hls C9 hnt hlk hTh hW hl.1 rd_gd (by decide) (by decide) l_K_272 in_IllegalArgumentException (List.mem_of_getElem? (i := 0) rfl) ta_K_IllegalArgumentException d_K_requireRange_10 d_K_requireRange_13 d_K_requireRange_14 d_K_requireRange_17 d_K_requireRange_20 (Nat.le_of_ble_eq_true rfl) (Nat.le_of_ble_eq_true rfl) (Nat.le_of_ble_eq_true rfl) (Nat.le_of_ble_eq_true rfl) rfl (Nat.le_of_ble_eq_true rfl) (Nat.le_of_ble_eq_true rfl)
def f_K_requireAmount (M : rd_M) (p0 : UInt64) : Option (String ⊕ Unit) :=
  if (Op.cmpValue (FP.dcmp p0 FP.dconst0) .l) < 0 then
    some (.inl "java/lang/IllegalArgumentException")
  else
    if (Op.cmpValue (FP.dcmp p0 4652007308841189376) .g) ≤ 0 then
      some (.inr ())
    else
      some (.inl "java/lang/IllegalArgumentException")
set_option maxRecDepth 100000 in
set_option maxHeartbeats 4000000 in
theorem c_K_requireAmount {l : Launch} (hls : l.stackTraces = false) {D : va_G} {Ka : Nat → ClassId} {ad : Nat → Nat} {M : rd_M} (p0 : UInt64)  {o : String ⊕ Unit} (hf : f_K_requireAmount M p0 = some o) :
    rd_Met l y_K_requireAmount b_K_requireAmount 2 none (6, 90, 1, 6) rd_T rd_ss D rd_cl (rd_ty Ka) (dk_L Ka) ad M [.double p0] (fun r M1 => ∃ v, o = .inr v ∧ r = none ∧ M = M1) (fun E => o = .inl E) := by
  refine rd_body (by decide) (Nat.le_of_ble_eq_true rfl) ?_
  intro p e s m below meth c C9 hlk hret hnt hTh hW ls hl
  have hx := C9.1.1
  have hb := C9.1.2.1
  have hl : lv_has ls 2 [(0, .double p0)] := hl
  unfold f_K_requireAmount at hf
  refine lv_dload_n hx hb d_K_requireAmount_0 rfl (lv_at hl 0 rfl) ?_
  refine lv_dconst0 hx hb d_K_requireAmount_1 ?_
  refine lv_dcmp hx hb d_K_requireAmount_2 ?_
  refine lv_if_lt (tgt := 14) hx hb d_K_requireAmount_3 (by decide) (fun c1 => ?_) (fun c1 => ?_)
  · have hf := rd_t hf c1
    obtain rfl := Option.some.inj hf
    exact rd_throwW (text := "an amount is out of range") (names := ["java/lang/RuntimeException", "java/lang/Exception"]) hls C9 hnt hlk hTh hW hl.1 rd_gd (by decide) (by decide) l_K_272 in_IllegalArgumentException (List.mem_of_getElem? (i := 1) rfl) ta_K_IllegalArgumentException d_K_requireAmount_14 d_K_requireAmount_17 d_K_requireAmount_18 d_K_requireAmount_21 d_K_requireAmount_24 (Nat.le_of_ble_eq_true rfl) (Nat.le_of_ble_eq_true rfl) (Nat.le_of_ble_eq_true rfl) (Nat.le_of_ble_eq_true rfl) rfl (Nat.le_of_ble_eq_true rfl) (Nat.le_of_ble_eq_true rfl)
  · have hf := rd_f hf c1
    refine lv_dload_n hx hb d_K_requireAmount_6 rfl (lv_at hl 0 rfl) ?_
    refine rd_ldcD C9 l_K_277 d_K_requireAmount_7 ?_
    refine lv_dcmp hx hb d_K_requireAmount_10 ?_
    refine lv_if_le (tgt := 25) hx hb d_K_requireAmount_11 (by decide) (fun c2 => ?_) (fun c2 => ?_)
    · have hf := rd_t hf c2
      obtain rfl := Option.some.inj hf
      exact rd_vret C9 hlk hret hW ⟨_, rfl, rfl, rfl⟩ (by decide) (by decide) d_K_requireAmount_25
    · have hf := rd_f hf c2
      obtain rfl := Option.some.inj hf
      exact rd_throwW (text := "an amount is out of range") (names := ["java/lang/RuntimeException", "java/lang/Exception"]) hls C9 hnt hlk hTh hW hl.1 rd_gd (by decide) (by decide) l_K_272 in_IllegalArgumentException (List.mem_of_getElem? (i := 1) rfl) ta_K_IllegalArgumentException d_K_requireAmount_14 d_K_requireAmount_17 d_K_requireAmount_18 d_K_requireAmount_21 d_K_requireAmount_24 (Nat.le_of_ble_eq_true rfl) (Nat.le_of_ble_eq_true rfl) (Nat.le_of_ble_eq_true rfl) (Nat.le_of_ble_eq_true rfl) rfl (Nat.le_of_ble_eq_true rfl) (Nat.le_of_ble_eq_true rfl)
def f_K_price (M : rd_M) (p1 : Int32) (p2 : UInt64) : Option (String ⊕ (Int32 × rd_M)) :=
  rd_b (f_K_requireRange M p1 0 3) fun r1 =>
  rd_b (f_K_requireAmount M p2) fun r2 =>
  if rd_in p1 4 then
  rd_k (rd_dU M 1 p1.toNatClampNeg p2) fun M4 =>
  some (.inr (0, M4))
  else none
set_option maxRecDepth 100000 in
set_option maxHeartbeats 4000000 in
theorem c_K_price {l : Launch} (hls : l.stackTraces = false) {D : va_G} {Ka : Nat → ClassId} {ad : Nat → Nat} {M : rd_M} (p1 : Int32) (p2 : UInt64)  {o : String ⊕ (Int32 × rd_M)} (hf : f_K_price M p1 p2 = some o) :
    rd_Met l y_K_price b_K_price 4 (some .int) (7, 112, 2, 12) rd_T rd_ss D rd_cl (rd_ty Ka) (dk_L Ka) ad M [.ref (ad 0), .int p1, .double p2] (fun r M1 => ∃ v, o = .inr v ∧ r = some (.int v.1) ∧ v.2 = M1) (fun E => o = .inl E) := by
  refine rd_body (by decide) (Nat.le_of_ble_eq_true rfl) ?_
  intro p e s m below meth c C9 hlk hret hnt hTh hW ls hl
  have hx := C9.1.1
  have hb := C9.1.2.1
  have hl : lv_has ls 4 [(0, .ref (ad 0)), (1, .int p1), (2, .double p2)] := hl
  unfold f_K_price at hf
  refine lv_iload_n hx hb d_K_price_0 rfl (lv_at hl 1 rfl) ?_
  refine lv_iconst (v := 0) hx hb d_K_price_1 (by decide) ?_
  refine lv_iconst (v := 3) hx hb d_K_price_2 (by decide) ?_
  obtain ⟨or1, qr1, xr1, vr1⟩ := rd_b_run hf
  refine rd_callS (As := [.int p1, .int 0, .int 3]) (rest := []) rd_gd C9 hTh hW (c_K_requireRange hls p1 0 3 qr1) kc_K_requireRange ki_K_requireRange l_K_38 rfl ⟨Nat.le_of_ble_eq_true rfl, Nat.le_of_ble_eq_true rfl⟩ ⟨Nat.le_of_ble_eq_true rfl, Nat.le_of_ble_eq_true rfl⟩ hl.1 rfl (Nat.le_of_ble_eq_true rfl) d_K_price_3 (fun E ce q9 H locs hex hW h1 h2 h3 => rd_out hnt hlk hW (xr1 E hex) h1 h2 h3 (by decide) (by decide)) (fun rr MM H locs hp hW => ?_)
  obtain ⟨r1, er1, rfl, rfl⟩ := hp
  have hf := vr1 _ er1
  refine lv_dload_n hx hb d_K_price_6 rfl (lv_at hl 2 rfl) ?_
  obtain ⟨or2, qr2, xr2, vr2⟩ := rd_b_run hf
  refine rd_callS (As := [.double p2]) (rest := []) rd_gd C9 hTh hW (c_K_requireAmount hls p2 qr2) kc_K_requireAmount ki_K_requireAmount l_K_42 rfl ⟨Nat.le_of_ble_eq_true rfl, Nat.le_of_ble_eq_true rfl⟩ ⟨Nat.le_of_ble_eq_true rfl, Nat.le_of_ble_eq_true rfl⟩ hl.1 rfl (Nat.le_of_ble_eq_true rfl) d_K_price_7 (fun E ce q9 H locs hex hW h1 h2 h3 => rd_out hnt hlk hW (xr2 E hex) h1 h2 h3 (by decide) (by decide)) (fun rr MM H locs hp hW => ?_)
  obtain ⟨r2, er2, rfl, rfl⟩ := hp
  have hf := vr2 _ er2
  refine lv_aload_n hx hb d_K_price_10 rfl (lv_at hl 0 rfl) ?_
  refine gf_K_prices C9 hW l_K_9 d_K_price_11 ?_
  refine lv_iload_n hx hb d_K_price_14 rfl (lv_at hl 1 rfl) ?_
  refine lv_dload_n hx hb d_K_price_15 rfl (lv_at hl 2 rfl) ?_
  obtain ⟨g3, hf⟩ := rd_g hf
  refine as_prices C9 hW rfl g3 d_K_price_16 (fun H locs hW => ?_)
  obtain ⟨M4, hM4, hf⟩ := rd_k_el hf
  rw [← hM4] at hW
  refine lv_iconst (v := 0) hx hb d_K_price_17 (by decide) ?_
  obtain rfl := Option.some.inj hf
  exact rd_iret C9 hlk hret hW ⟨_, rfl, rfl, rfl⟩ (by decide) (by decide) d_K_price_18
def f_K_requireRegistrar (M : rd_M) (p0 : Int32) : Option (String ⊕ Unit) :=
  rd_b (f_K_requireRange M p0 0 3) fun r1 =>
  some (.inr ())
set_option maxRecDepth 100000 in
set_option maxHeartbeats 4000000 in
theorem c_K_requireRegistrar {l : Launch} (hls : l.stackTraces = false) {D : va_G} {Ka : Nat → ClassId} {ad : Nat → Nat} {M : rd_M} (p0 : Int32)  {o : String ⊕ Unit} (hf : f_K_requireRegistrar M p0 = some o) :
    rd_Met l y_K_requireRegistrar b_K_requireRegistrar 1 none (7, 112, 1, 6) rd_T rd_ss D rd_cl (rd_ty Ka) (dk_L Ka) ad M [.int p0] (fun r M1 => ∃ v, o = .inr v ∧ r = none ∧ M = M1) (fun E => o = .inl E) := by
  refine rd_body (by decide) (Nat.le_of_ble_eq_true rfl) ?_
  intro p e s m below meth c C9 hlk hret hnt hTh hW ls hl
  have hx := C9.1.1
  have hb := C9.1.2.1
  have hl : lv_has ls 1 [(0, .int p0)] := hl
  unfold f_K_requireRegistrar at hf
  refine lv_iload_n hx hb d_K_requireRegistrar_0 rfl (lv_at hl 0 rfl) ?_
  refine lv_iconst (v := 0) hx hb d_K_requireRegistrar_1 (by decide) ?_
  refine lv_iconst (v := 3) hx hb d_K_requireRegistrar_2 (by decide) ?_
  obtain ⟨or1, qr1, xr1, vr1⟩ := rd_b_run hf
  refine rd_callS (As := [.int p0, .int 0, .int 3]) (rest := []) rd_gd C9 hTh hW (c_K_requireRange hls p0 0 3 qr1) kc_K_requireRange ki_K_requireRange l_K_38 rfl ⟨Nat.le_of_ble_eq_true rfl, Nat.le_of_ble_eq_true rfl⟩ ⟨Nat.le_of_ble_eq_true rfl, Nat.le_of_ble_eq_true rfl⟩ hl.1 rfl (Nat.le_of_ble_eq_true rfl) d_K_requireRegistrar_3 (fun E ce q9 H locs hex hW h1 h2 h3 => rd_out hnt hlk hW (xr1 E hex) h1 h2 h3 (by decide) (by decide)) (fun rr MM H locs hp hW => ?_)
  obtain ⟨r1, er1, rfl, rfl⟩ := hp
  have hf := vr1 _ er1
  obtain rfl := Option.some.inj hf
  exact rd_vret C9 hlk hret hW ⟨_, rfl, rfl, rfl⟩ (by decide) (by decide) d_K_requireRegistrar_6
def f_K_requireAboveZero (M : rd_M) (p0 : UInt64) : Option (String ⊕ Unit) :=
  if 0 < (Op.cmpValue (FP.dcmp p0 FP.dconst0) .g) then
    some (.inr ())
  else
    some (.inl "java/lang/IllegalArgumentException")
set_option maxRecDepth 100000 in
set_option maxHeartbeats 4000000 in
theorem c_K_requireAboveZero {l : Launch} (hls : l.stackTraces = false) {D : va_G} {Ka : Nat → ClassId} {ad : Nat → Nat} {M : rd_M} (p0 : UInt64)  {o : String ⊕ Unit} (hf : f_K_requireAboveZero M p0 = some o) :
    rd_Met l y_K_requireAboveZero b_K_requireAboveZero 2 none (6, 90, 1, 6) rd_T rd_ss D rd_cl (rd_ty Ka) (dk_L Ka) ad M [.double p0] (fun r M1 => ∃ v, o = .inr v ∧ r = none ∧ M = M1) (fun E => o = .inl E) := by
  refine rd_body (by decide) (Nat.le_of_ble_eq_true rfl) ?_
  intro p e s m below meth c C9 hlk hret hnt hTh hW ls hl
  have hx := C9.1.1
  have hb := C9.1.2.1
  have hl : lv_has ls 2 [(0, .double p0)] := hl
  unfold f_K_requireAboveZero at hf
  refine lv_dload_n hx hb d_K_requireAboveZero_0 rfl (lv_at hl 0 rfl) ?_
  refine lv_dconst0 hx hb d_K_requireAboveZero_1 ?_
  refine lv_dcmp hx hb d_K_requireAboveZero_2 ?_
  refine lv_if_gt (tgt := 17) hx hb d_K_requireAboveZero_3 (by decide) (fun c1 => ?_) (fun c1 => ?_)
  · have hf := rd_t hf c1
    obtain rfl := Option.some.inj hf
    exact rd_vret C9 hlk hret hW ⟨_, rfl, rfl, rfl⟩ (by decide) (by decide) d_K_requireAboveZero_17
  · have hf := rd_f hf c1
    obtain rfl := Option.some.inj hf
    exact rd_throwW (text := "the amount is not above 0") (names := ["java/lang/RuntimeException", "java/lang/Exception"]) hls C9 hnt hlk hTh hW hl.1 rd_gd (by decide) (by decide) l_K_272 in_IllegalArgumentException (List.mem_of_getElem? (i := 2) rfl) ta_K_IllegalArgumentException d_K_requireAboveZero_6 d_K_requireAboveZero_9 d_K_requireAboveZero_10 d_K_requireAboveZero_13 d_K_requireAboveZero_16 (Nat.le_of_ble_eq_true rfl) (Nat.le_of_ble_eq_true rfl) (Nat.le_of_ble_eq_true rfl) (Nat.le_of_ble_eq_true rfl) rfl (Nat.le_of_ble_eq_true rfl) (Nat.le_of_ble_eq_true rfl)
def f_K_deposit (M : rd_M) (p1 : Int32) (p2 : UInt64) : Option (String ⊕ (UInt64 × rd_M)) :=
  rd_b (f_K_requireRegistrar M p1) fun r1 =>
  rd_b (f_K_requireAmount M p2) fun r2 =>
  rd_b (f_K_requireAboveZero M p2) fun r3 =>
  if rd_in p1 4 then
  if rd_nn (FP.dadd ((M (3 + 3 * p1.toNatClampNeg)).2.2 2) p2) then
  rd_k (rd_dU M (3 + 3 * p1.toNatClampNeg) 2 (FP.dadd ((M (3 + 3 * p1.toNatClampNeg)).2.2 2) p2)) fun M5 =>
  if rd_in p1 4 then
  some (.inr ((M5 (3 + 3 * p1.toNatClampNeg)).2.2 2, M5))
  else none
  else none
  else none
set_option maxRecDepth 100000 in
set_option maxHeartbeats 4000000 in
theorem c_K_deposit {l : Launch} (hls : l.stackTraces = false) {D : va_G} {Ka : Nat → ClassId} {ad : Nat → Nat} {M : rd_M} (p1 : Int32) (p2 : UInt64)  {o : String ⊕ (UInt64 × rd_M)} (hf : f_K_deposit M p1 p2 = some o) :
    rd_Met l y_K_deposit b_K_deposit 4 (some .double) (8, 132, 3, 18) rd_T rd_ss D rd_cl (rd_ty Ka) (dk_L Ka) ad M [.ref (ad 0), .int p1, .double p2] (fun r M1 => ∃ v, o = .inr v ∧ r = some (.double v.1) ∧ v.2 = M1) (fun E => o = .inl E) := by
  refine rd_body (by decide) (Nat.le_of_ble_eq_true rfl) ?_
  intro p e s m below meth c C9 hlk hret hnt hTh hW ls hl
  have hx := C9.1.1
  have hb := C9.1.2.1
  have hl : lv_has ls 4 [(0, .ref (ad 0)), (1, .int p1), (2, .double p2)] := hl
  unfold f_K_deposit at hf
  refine lv_iload_n hx hb d_K_deposit_0 rfl (lv_at hl 1 rfl) ?_
  obtain ⟨or1, qr1, xr1, vr1⟩ := rd_b_run hf
  refine rd_callS (As := [.int p1]) (rest := []) rd_gd C9 hTh hW (c_K_requireRegistrar hls p1 qr1) kc_K_requireRegistrar ki_K_requireRegistrar l_K_46 rfl ⟨Nat.le_of_ble_eq_true rfl, Nat.le_of_ble_eq_true rfl⟩ ⟨Nat.le_of_ble_eq_true rfl, Nat.le_of_ble_eq_true rfl⟩ hl.1 rfl (Nat.le_of_ble_eq_true rfl) d_K_deposit_1 (fun E ce q9 H locs hex hW h1 h2 h3 => rd_out hnt hlk hW (xr1 E hex) h1 h2 h3 (by decide) (by decide)) (fun rr MM H locs hp hW => ?_)
  obtain ⟨r1, er1, rfl, rfl⟩ := hp
  have hf := vr1 _ er1
  refine lv_dload_n hx hb d_K_deposit_4 rfl (lv_at hl 2 rfl) ?_
  obtain ⟨or2, qr2, xr2, vr2⟩ := rd_b_run hf
  refine rd_callS (As := [.double p2]) (rest := []) rd_gd C9 hTh hW (c_K_requireAmount hls p2 qr2) kc_K_requireAmount ki_K_requireAmount l_K_42 rfl ⟨Nat.le_of_ble_eq_true rfl, Nat.le_of_ble_eq_true rfl⟩ ⟨Nat.le_of_ble_eq_true rfl, Nat.le_of_ble_eq_true rfl⟩ hl.1 rfl (Nat.le_of_ble_eq_true rfl) d_K_deposit_5 (fun E ce q9 H locs hex hW h1 h2 h3 => rd_out hnt hlk hW (xr2 E hex) h1 h2 h3 (by decide) (by decide)) (fun rr MM H locs hp hW => ?_)
  obtain ⟨r2, er2, rfl, rfl⟩ := hp
  have hf := vr2 _ er2
  refine lv_dload_n hx hb d_K_deposit_8 rfl (lv_at hl 2 rfl) ?_
  obtain ⟨or3, qr3, xr3, vr3⟩ := rd_b_run hf
  refine rd_callS (As := [.double p2]) (rest := []) rd_gd C9 hTh hW (c_K_requireAboveZero hls p2 qr3) kc_K_requireAboveZero ki_K_requireAboveZero l_K_50 rfl ⟨Nat.le_of_ble_eq_true rfl, Nat.le_of_ble_eq_true rfl⟩ ⟨Nat.le_of_ble_eq_true rfl, Nat.le_of_ble_eq_true rfl⟩ hl.1 rfl (Nat.le_of_ble_eq_true rfl) d_K_deposit_9 (fun E ce q9 H locs hex hW h1 h2 h3 => rd_out hnt hlk hW (xr3 E hex) h1 h2 h3 (by decide) (by decide)) (fun rr MM H locs hp hW => ?_)
  obtain ⟨r3, er3, rfl, rfl⟩ := hp
  have hf := vr3 _ er3
  refine lv_aload_n hx hb d_K_deposit_12 rfl (lv_at hl 0 rfl) ?_
  refine gf_K_accounts C9 hW l_K_15 d_K_deposit_13 ?_
  refine lv_iload_n hx hb d_K_deposit_16 rfl (lv_at hl 1 rfl) ?_
  obtain ⟨g4, hf⟩ := rd_g hf
  refine al_accounts C9 hW rfl g4 d_K_deposit_17 ?_
  refine lv_dup hx hb d_K_deposit_18 rfl ?_
  refine gf_A_balance C9 hW (rd_lt g4) l_K_53 d_K_deposit_19 ?_
  refine lv_dload_n hx hb d_K_deposit_22 rfl (lv_at hl 2 rfl) ?_
  obtain ⟨g_23, hf⟩ := rd_g hf
  refine lv_dadd hx hb d_K_deposit_23 g_23 ?_
  refine pf_A_balance C9 hW (rd_lt g4) l_K_53 d_K_deposit_24 (fun H locs hW => ?_)
  obtain ⟨M5, hM5, hf⟩ := rd_k_el hf
  rw [← hM5] at hW
  refine lv_aload_n hx hb d_K_deposit_27 rfl (lv_at hl 0 rfl) ?_
  refine gf_K_accounts C9 hW l_K_15 d_K_deposit_28 ?_
  refine lv_iload_n hx hb d_K_deposit_31 rfl (lv_at hl 1 rfl) ?_
  obtain ⟨g6, hf⟩ := rd_g hf
  refine al_accounts C9 hW rfl g6 d_K_deposit_32 ?_
  refine gf_A_balance C9 hW (rd_lt g6) l_K_53 d_K_deposit_33 ?_
  obtain rfl := Option.some.inj hf
  exact rd_dret C9 hlk hret hW ⟨_, rfl, rfl, rfl⟩ (by decide) (by decide) d_K_deposit_36
def f_K_requireShelfRoom (M : rd_M) (r0_0 : Nat) : Option (String ⊕ Unit) :=
  if ((M (16 + 10 * r0_0)).1 1) < 8 then
    some (.inr ())
  else
    some (.inl "java/lang/IllegalStateException")
set_option maxRecDepth 100000 in
set_option maxHeartbeats 4000000 in
theorem c_K_requireShelfRoom {l : Launch} (hls : l.stackTraces = false) {D : va_G} {Ka : Nat → ClassId} {ad : Nat → Nat} {M : rd_M} (r0_0 : Nat) (h0_0 : r0_0 < 2) {o : String ⊕ Unit} (hf : f_K_requireShelfRoom M r0_0 = some o) :
    rd_Met l y_K_requireShelfRoom b_K_requireShelfRoom 1 none (6, 90, 1, 6) rd_T rd_ss D rd_cl (rd_ty Ka) (dk_L Ka) ad M [.ref (ad (16 + 10 * r0_0))] (fun r M1 => ∃ v, o = .inr v ∧ r = none ∧ M = M1) (fun E => o = .inl E) := by
  refine rd_body (by decide) (Nat.le_of_ble_eq_true rfl) ?_
  intro p e s m below meth c C9 hlk hret hnt hTh hW ls hl
  have hx := C9.1.1
  have hb := C9.1.2.1
  have hl : lv_has ls 1 [(0, .ref (ad (16 + 10 * r0_0)))] := hl
  unfold f_K_requireShelfRoom at hf
  refine lv_aload_n hx hb d_K_requireShelfRoom_0 rfl (lv_at hl 0 rfl) ?_
  refine gf_S_made C9 hW h0_0 l_K_304 d_K_requireShelfRoom_1 ?_
  refine lv_bipush (v := 8) hx hb d_K_requireShelfRoom_4 (by decide) ?_
  refine lv_icmp_lt (tgt := 20) hx hb d_K_requireShelfRoom_6 (by decide) (fun c1 => ?_) (fun c1 => ?_)
  · have hf := rd_t hf c1
    obtain rfl := Option.some.inj hf
    exact rd_vret C9 hlk hret hW ⟨_, rfl, rfl, rfl⟩ (by decide) (by decide) d_K_requireShelfRoom_20
  · have hf := rd_f hf c1
    obtain rfl := Option.some.inj hf
    exact rd_throwW (text := "all numbers have been given") (names := ["java/lang/RuntimeException", "java/lang/Exception"]) hls C9 hnt hlk hTh hW hl.1 rd_gd (by decide) (by decide) l_K_87 in_IllegalStateException (List.mem_of_getElem? (i := 3) rfl) ta_K_IllegalStateException d_K_requireShelfRoom_9 d_K_requireShelfRoom_12 d_K_requireShelfRoom_13 d_K_requireShelfRoom_16 d_K_requireShelfRoom_19 (Nat.le_of_ble_eq_true rfl) (Nat.le_of_ble_eq_true rfl) (Nat.le_of_ble_eq_true rfl) (Nat.le_of_ble_eq_true rfl) rfl (Nat.le_of_ble_eq_true rfl) (Nat.le_of_ble_eq_true rfl)
def f_S_make (M : rd_M) (r0_0 : Nat) (p1 : Int32) (p2 : Int32) (p3 : Int32) : Option (Int32 × rd_M) :=
  if rd_in ((M (16 + 10 * r0_0)).1 1) 8 then
  rd_k (rd_iU M (18 + 10 * r0_0 + (((M (16 + 10 * r0_0)).1 1).toNatClampNeg)) 0 1) fun M2 =>
  rd_k (rd_iU M2 (18 + 10 * r0_0 + (((M (16 + 10 * r0_0)).1 1).toNatClampNeg)) 1 p1) fun M3 =>
  rd_k (rd_iU M3 (18 + 10 * r0_0 + (((M (16 + 10 * r0_0)).1 1).toNatClampNeg)) 2 p2) fun M4 =>
  rd_k (rd_iU M4 (18 + 10 * r0_0 + (((M (16 + 10 * r0_0)).1 1).toNatClampNeg)) 3 p3) fun M5 =>
  rd_k (rd_iU M5 (16 + 10 * r0_0) 1 (((M5 (16 + 10 * r0_0)).1 1) + 1)) fun M6 =>
  some (((M6 (16 + 10 * r0_0)).1 1) - 1, M6)
  else none
set_option maxRecDepth 100000 in
set_option maxHeartbeats 4000000 in
theorem c_S_make {l : Launch} (hls : l.stackTraces = false) {D : va_G} {Ka : Nat → ClassId} {ad : Nat → Nat} {M : rd_M} (r0_0 : Nat) (p1 : Int32) (p2 : Int32) (p3 : Int32) (h0_0 : r0_0 < 2) {o : Int32 × rd_M} (hf : f_S_make M r0_0 p1 p2 p3 = some o) :
    rd_Met l y_S_make b_S_make 5 (some .int) (0, 0, 0, 0) rd_T rd_ss D rd_cl (rd_ty Ka) (dk_L Ka) ad M [.ref (ad (16 + 10 * r0_0)), .int p1, .int p2, .int p3] (fun r M1 => r = some (.int o.1) ∧ o.2 = M1) (fun _ => False) := by
  refine rd_body (by decide) (Nat.le_of_ble_eq_true rfl) ?_
  intro p e s m below meth c C9 hlk hret hnt hTh hW ls hl
  have hx := C9.1.1
  have hb := C9.1.2.1
  have hl : lv_has ls 5 [(0, .ref (ad (16 + 10 * r0_0))), (1, .int p1), (2, .int p2), (3, .int p3)] := hl
  unfold f_S_make at hf
  refine lv_aload_n hx hb d_S_make_0 rfl (lv_at hl 0 rfl) ?_
  refine gf_S_things C9 hW h0_0 l_S_11 d_S_make_1 ?_
  refine lv_aload_n hx hb d_S_make_4 rfl (lv_at hl 0 rfl) ?_
  refine gf_S_made C9 hW h0_0 l_S_18 d_S_make_5 ?_
  obtain ⟨g1, hf⟩ := rd_g hf
  refine al_things C9 hW h0_0 rfl g1 d_S_make_8 ?_
  refine lv_astore (lv' := [(4, .ref (ad (18 + 10 * r0_0 + (((M (16 + 10 * r0_0)).1 1).toNatClampNeg)))), (0, .ref (ad (16 + 10 * r0_0))), (1, .int p1), (2, .int p2), (3, .int p3)]) hx hb d_S_make_9 hl (by decide) rfl (fun ls hl => ?_)
  refine lv_aload hx hb d_S_make_11 (lv_at hl 0 rfl) ?_
  refine lv_iconst (v := 1) hx hb d_S_make_13 (by decide) ?_
  refine pf_T_there C9 hW h0_0 (rd_lt g1) (Or.inr rfl) l_S_22 d_S_make_14 (fun H locs hW => ?_)
  obtain ⟨M2, hM2, hf⟩ := rd_k_el hf
  rw [← hM2] at hW
  refine lv_aload hx hb d_S_make_17 (lv_at hl 0 rfl) ?_
  refine lv_iload_n hx hb d_S_make_19 rfl (lv_at hl 2 rfl) ?_
  refine pf_T_owner C9 hW h0_0 (rd_lt g1) l_S_26 d_S_make_20 (fun H locs hW => ?_)
  obtain ⟨M3, hM3, hf⟩ := rd_k_el hf
  rw [← hM3] at hW
  refine lv_aload hx hb d_S_make_23 (lv_at hl 0 rfl) ?_
  refine lv_iload_n hx hb d_S_make_25 rfl (lv_at hl 3 rfl) ?_
  refine pf_T_under C9 hW h0_0 (rd_lt g1) l_S_29 d_S_make_26 (fun H locs hW => ?_)
  obtain ⟨M4, hM4, hf⟩ := rd_k_el hf
  rw [← hM4] at hW
  refine lv_aload hx hb d_S_make_29 (lv_at hl 0 rfl) ?_
  refine lv_iload_n hx hb d_S_make_31 rfl (lv_at hl 4 rfl) ?_
  refine pf_T_address C9 hW h0_0 (rd_lt g1) l_S_32 d_S_make_32 (fun H locs hW => ?_)
  obtain ⟨M5, hM5, hf⟩ := rd_k_el hf
  rw [← hM5] at hW
  refine lv_aload_n hx hb d_S_make_35 rfl (lv_at hl 1 rfl) ?_
  refine lv_dup hx hb d_S_make_36 rfl ?_
  refine gf_S_made C9 hW h0_0 l_S_18 d_S_make_37 ?_
  refine lv_iconst (v := 1) hx hb d_S_make_40 (by decide) ?_
  refine lv_iadd hx hb d_S_make_41 ?_
  refine pf_S_made C9 hW h0_0 l_S_18 d_S_make_42 (fun H locs hW => ?_)
  obtain ⟨M6, hM6, hf⟩ := rd_k_el hf
  rw [← hM6] at hW
  refine lv_aload_n hx hb d_S_make_45 rfl (lv_at hl 1 rfl) ?_
  refine gf_S_made C9 hW h0_0 l_S_18 d_S_make_46 ?_
  refine lv_iconst (v := 1) hx hb d_S_make_49 (by decide) ?_
  refine lv_isub hx hb d_S_make_50 ?_
  obtain rfl := Option.some.inj hf
  exact rd_iret C9 hlk hret hW ⟨rfl, rfl⟩ (by decide) (by decide) d_S_make_51
def f_K_contact (M : rd_M) (p1 : Int32) : Option (String ⊕ (Int32 × rd_M)) :=
  rd_b (f_K_requireRegistrar M p1) fun r1 =>
  rd_b (f_K_requireShelfRoom M 0) fun r2 =>
  (f_S_make M 0 p1 (-1) 0).bind fun r3 =>
  some (.inr (r3.1, r3.2))
set_option maxRecDepth 100000 in
set_option maxHeartbeats 4000000 in
theorem c_K_contact {l : Launch} (hls : l.stackTraces = false) {D : va_G} {Ka : Nat → ClassId} {ad : Nat → Nat} {M : rd_M} (p1 : Int32)  {o : String ⊕ (Int32 × rd_M)} (hf : f_K_contact M p1 = some o) :
    rd_Met l y_K_contact b_K_contact 2 (some .int) (8, 132, 2, 12) rd_T rd_ss D rd_cl (rd_ty Ka) (dk_L Ka) ad M [.ref (ad 0), .int p1] (fun r M1 => ∃ v, o = .inr v ∧ r = some (.int v.1) ∧ v.2 = M1) (fun E => o = .inl E) := by
  refine rd_body (by decide) (Nat.le_of_ble_eq_true rfl) ?_
  intro p e s m below meth c C9 hlk hret hnt hTh hW ls hl
  have hx := C9.1.1
  have hb := C9.1.2.1
  have hl : lv_has ls 2 [(0, .ref (ad 0)), (1, .int p1)] := hl
  unfold f_K_contact at hf
  refine lv_iload_n hx hb d_K_contact_0 rfl (lv_at hl 1 rfl) ?_
  obtain ⟨or1, qr1, xr1, vr1⟩ := rd_b_run hf
  refine rd_callS (As := [.int p1]) (rest := []) rd_gd C9 hTh hW (c_K_requireRegistrar hls p1 qr1) kc_K_requireRegistrar ki_K_requireRegistrar l_K_46 rfl ⟨Nat.le_of_ble_eq_true rfl, Nat.le_of_ble_eq_true rfl⟩ ⟨Nat.le_of_ble_eq_true rfl, Nat.le_of_ble_eq_true rfl⟩ hl.1 rfl (Nat.le_of_ble_eq_true rfl) d_K_contact_1 (fun E ce q9 H locs hex hW h1 h2 h3 => rd_out hnt hlk hW (xr1 E hex) h1 h2 h3 (by decide) (by decide)) (fun rr MM H locs hp hW => ?_)
  obtain ⟨r1, er1, rfl, rfl⟩ := hp
  have hf := vr1 _ er1
  refine lv_aload_n hx hb d_K_contact_4 rfl (lv_at hl 0 rfl) ?_
  refine gf_K_shelves C9 hW l_K_22 d_K_contact_5 ?_
  refine lv_iconst (v := 0) hx hb d_K_contact_8 (by decide) ?_
  refine al_shelves C9 hW (i := 0) (by decide) (show rd_in 0 2 by decide) d_K_contact_9 ?_
  obtain ⟨or2, qr2, xr2, vr2⟩ := rd_b_run hf
  refine rd_callS (As := [.ref (ad (16 + 10 * 0))]) (rest := []) rd_gd C9 hTh hW (c_K_requireShelfRoom hls 0 (by decide) qr2) kc_K_requireShelfRoom ki_K_requireShelfRoom l_K_57 rfl ⟨Nat.le_of_ble_eq_true rfl, Nat.le_of_ble_eq_true rfl⟩ ⟨Nat.le_of_ble_eq_true rfl, Nat.le_of_ble_eq_true rfl⟩ hl.1 rfl (Nat.le_of_ble_eq_true rfl) d_K_contact_10 (fun E ce q9 H locs hex hW h1 h2 h3 => rd_out hnt hlk hW (xr2 E hex) h1 h2 h3 (by decide) (by decide)) (fun rr MM H locs hp hW => ?_)
  obtain ⟨r2, er2, rfl, rfl⟩ := hp
  have hf := vr2 _ er2
  refine lv_aload_n hx hb d_K_contact_13 rfl (lv_at hl 0 rfl) ?_
  refine gf_K_shelves C9 hW l_K_22 d_K_contact_14 ?_
  refine lv_iconst (v := 0) hx hb d_K_contact_17 (by decide) ?_
  refine al_shelves C9 hW (i := 0) (by decide) (show rd_in 0 2 by decide) d_K_contact_18 ?_
  refine lv_iload_n hx hb d_K_contact_19 rfl (lv_at hl 1 rfl) ?_
  refine lv_iconst (v := (-1)) hx hb d_K_contact_20 (by decide) ?_
  refine lv_iconst (v := 0) hx hb d_K_contact_21 (by decide) ?_
  obtain ⟨r3, qr3, hf⟩ := rd_bind hf
  refine rd_callV (As := [.int p1, .int (-1), .int 0]) (rest := []) rd_gd C9 hTh hW (c_S_make hls 0 p1 (-1) 0 (by decide) qr3) kc_S_make ki_S_make ks_S_make l_K_61 rfl (lt_S (by decide)) (ce_S (by decide)) rfl ⟨Nat.le_of_ble_eq_true rfl, Nat.le_of_ble_eq_true rfl⟩ ⟨Nat.le_of_ble_eq_true rfl, Nat.le_of_ble_eq_true rfl⟩ hl.1 rfl (Nat.le_of_ble_eq_true rfl) d_K_contact_22 (fun E _ _ _ _ hex => hex.elim) (fun rr MM H locs hp hW => ?_)
  obtain ⟨rfl, rfl⟩ := hp
  obtain rfl := Option.some.inj hf
  exact rd_iret C9 hlk hret hW ⟨_, rfl, rfl, rfl⟩ (by decide) (by decide) d_K_contact_25
def f_K_domainThere (M : rd_M) (p1 : Int32) : Option (String ⊕ Nat) :=
  if rd_in p1 10 then
  if ((M (37 + 8 * p1.toNatClampNeg)).1 3) = 0 then
    some (.inl "java/util/NoSuchElementException")
  else
    if rd_in p1 10 then
    some (.inr p1.toNatClampNeg)
    else none
  else none
set_option maxRecDepth 100000 in
set_option maxHeartbeats 4000000 in
theorem c_K_domainThere {l : Launch} (hls : l.stackTraces = false) {D : va_G} {Ka : Nat → ClassId} {ad : Nat → Nat} {M : rd_M} (p1 : Int32)  {o : String ⊕ Nat} (hf : f_K_domainThere M p1 = some o) :
    rd_Met l y_K_domainThere b_K_domainThere 2 (some (.object "RegistryDesk$Domain")) (6, 90, 1, 6) rd_T rd_ss D rd_cl (rd_ty Ka) (dk_L Ka) ad M [.ref (ad 0), .int p1] (fun r M1 => ∃ v, o = .inr v ∧ r = some (.ref (ad (37 + 8 * v))) ∧ M = M1 ∧ v < 10) (fun E => o = .inl E) := by
  refine rd_body (by decide) (Nat.le_of_ble_eq_true rfl) ?_
  intro p e s m below meth c C9 hlk hret hnt hTh hW ls hl
  have hx := C9.1.1
  have hb := C9.1.2.1
  have hl : lv_has ls 2 [(0, .ref (ad 0)), (1, .int p1)] := hl
  unfold f_K_domainThere at hf
  refine lv_aload_n hx hb d_K_domainThere_0 rfl (lv_at hl 0 rfl) ?_
  refine gf_K_domains C9 hW l_K_29 d_K_domainThere_1 ?_
  refine lv_iload_n hx hb d_K_domainThere_4 rfl (lv_at hl 1 rfl) ?_
  obtain ⟨g1, hf⟩ := rd_g hf
  refine al_domains C9 hW rfl g1 d_K_domainThere_5 ?_
  refine gf_D_there C9 hW (rd_lt g1) l_K_105 d_K_domainThere_6 ?_
  refine lv_if_ne (tgt := 23) hx hb d_K_domainThere_9 (by decide) (fun c2 => ?_) (fun c2 => ?_)
  · have hf := rd_f hf c2
    refine lv_aload_n hx hb d_K_domainThere_23 rfl (lv_at hl 0 rfl) ?_
    refine gf_K_domains C9 hW l_K_29 d_K_domainThere_24 ?_
    refine lv_iload_n hx hb d_K_domainThere_27 rfl (lv_at hl 1 rfl) ?_
    obtain ⟨g3, hf⟩ := rd_g hf
    refine al_domains C9 hW rfl g3 d_K_domainThere_28 ?_
    obtain rfl := Option.some.inj hf
    exact rd_aret C9 hlk hret hW ⟨_, rfl, rfl, rfl, (rd_lt g3)⟩ (by decide) (by decide) d_K_domainThere_29
  · have hf := rd_t hf c2
    obtain rfl := Option.some.inj hf
    exact rd_throwXW (text := "the domain is not there") (Y1 := "java/lang/RuntimeException") (names := ["java/lang/Exception"]) hls C9 hnt hlk hTh hW hl.1 dn_0 dn_1 dn_2 dn_5 (by decide) rd_gd (by decide) (by decide) l_K_202 in_NoSuchElementException (List.mem_of_getElem? (i := 4) rfl) ta_K_NoSuchElementException d_K_domainThere_12 d_K_domainThere_15 d_K_domainThere_16 d_K_domainThere_19 d_K_domainThere_22 (Nat.le_of_ble_eq_true rfl) (Nat.le_of_ble_eq_true rfl) (Nat.le_of_ble_eq_true rfl) (Nat.le_of_ble_eq_true rfl) rfl (Nat.le_of_ble_eq_true rfl) (Nat.le_of_ble_eq_true rfl)
def f_K_requireOwner (M : rd_M) (p0 : Int32) (p1 : Int32) : Option (String ⊕ Unit) :=
  if p0 = p1 then
    some (.inr ())
  else
    some (.inl "java/lang/UnsupportedOperationException")
set_option maxRecDepth 100000 in
set_option maxHeartbeats 4000000 in
theorem c_K_requireOwner {l : Launch} (hls : l.stackTraces = false) {D : va_G} {Ka : Nat → ClassId} {ad : Nat → Nat} {M : rd_M} (p0 : Int32) (p1 : Int32)  {o : String ⊕ Unit} (hf : f_K_requireOwner M p0 p1 = some o) :
    rd_Met l y_K_requireOwner b_K_requireOwner 2 none (6, 90, 1, 6) rd_T rd_ss D rd_cl (rd_ty Ka) (dk_L Ka) ad M [.int p0, .int p1] (fun r M1 => ∃ v, o = .inr v ∧ r = none ∧ M = M1) (fun E => o = .inl E) := by
  refine rd_body (by decide) (Nat.le_of_ble_eq_true rfl) ?_
  intro p e s m below meth c C9 hlk hret hnt hTh hW ls hl
  have hx := C9.1.1
  have hb := C9.1.2.1
  have hl : lv_has ls 2 [(0, .int p0), (1, .int p1)] := hl
  unfold f_K_requireOwner at hf
  refine lv_iload_n hx hb d_K_requireOwner_0 rfl (lv_at hl 0 rfl) ?_
  refine lv_iload_n hx hb d_K_requireOwner_1 rfl (lv_at hl 1 rfl) ?_
  refine lv_icmp_eq (tgt := 16) hx hb d_K_requireOwner_2 (by decide) (fun c1 => ?_) (fun c1 => ?_)
  · have hf := rd_t hf c1
    obtain rfl := Option.some.inj hf
    exact rd_vret C9 hlk hret hW ⟨_, rfl, rfl, rfl⟩ (by decide) (by decide) d_K_requireOwner_16
  · have hf := rd_f hf c1
    obtain rfl := Option.some.inj hf
    exact rd_throwW (text := "only the owner may do that") (names := ["java/lang/RuntimeException", "java/lang/Exception"]) hls C9 hnt hlk hTh hW hl.1 rd_gd (by decide) (by decide) l_K_188 in_UnsupportedOperationException (List.mem_of_getElem? (i := 5) rfl) ta_K_UnsupportedOperationException d_K_requireOwner_5 d_K_requireOwner_8 d_K_requireOwner_9 d_K_requireOwner_12 d_K_requireOwner_15 (Nat.le_of_ble_eq_true rfl) (Nat.le_of_ble_eq_true rfl) (Nat.le_of_ble_eq_true rfl) (Nat.le_of_ble_eq_true rfl) rfl (Nat.le_of_ble_eq_true rfl) (Nat.le_of_ble_eq_true rfl)
def f_K_host (M : rd_M) (p1 : Int32) (p2 : Int32) (p3 : Int32) : Option (String ⊕ (Int32 × rd_M)) :=
  rd_b (f_K_requireRegistrar M p1) fun r1 =>
  rd_b (f_K_requireRange M p2 (-1) 9) fun r2 =>
  if p2 = (-1) then
    rd_b (f_K_requireRange M p3 0 0) fun r9 =>
    rd_b (f_K_requireShelfRoom M 1) fun r10 =>
    (f_S_make M 1 p1 p2 p3).bind fun r11 =>
    some (.inr (r11.1, r11.2))
  else
    rd_b (f_K_requireRange M p3 1 999) fun r4 =>
    rd_b (f_K_domainThere M p2) fun r5 =>
    rd_b (f_K_requireOwner M ((M (37 + 8 * r5)).1 4) p1) fun r6 =>
    rd_b (f_K_requireShelfRoom M 1) fun r7 =>
    (f_S_make M 1 p1 p2 p3).bind fun r8 =>
    some (.inr (r8.1, r8.2))
set_option maxRecDepth 100000 in
set_option maxHeartbeats 4000000 in
theorem c_K_host {l : Launch} (hls : l.stackTraces = false) {D : va_G} {Ka : Nat → ClassId} {ad : Nat → Nat} {M : rd_M} (p1 : Int32) (p2 : Int32) (p3 : Int32)  {o : String ⊕ (Int32 × rd_M)} (hf : f_K_host M p1 p2 p3 = some o) :
    rd_Met l y_K_host b_K_host 4 (some .int) (8, 132, 7, 42) rd_T rd_ss D rd_cl (rd_ty Ka) (dk_L Ka) ad M [.ref (ad 0), .int p1, .int p2, .int p3] (fun r M1 => ∃ v, o = .inr v ∧ r = some (.int v.1) ∧ v.2 = M1) (fun E => o = .inl E) := by
  refine rd_body (by decide) (Nat.le_of_ble_eq_true rfl) ?_
  intro p e s m below meth c C9 hlk hret hnt hTh hW ls hl
  have hx := C9.1.1
  have hb := C9.1.2.1
  have hl : lv_has ls 4 [(0, .ref (ad 0)), (1, .int p1), (2, .int p2), (3, .int p3)] := hl
  unfold f_K_host at hf
  refine lv_iload_n hx hb d_K_host_0 rfl (lv_at hl 1 rfl) ?_
  obtain ⟨or1, qr1, xr1, vr1⟩ := rd_b_run hf
  refine rd_callS (As := [.int p1]) (rest := []) rd_gd C9 hTh hW (c_K_requireRegistrar hls p1 qr1) kc_K_requireRegistrar ki_K_requireRegistrar l_K_46 rfl ⟨Nat.le_of_ble_eq_true rfl, Nat.le_of_ble_eq_true rfl⟩ ⟨Nat.le_of_ble_eq_true rfl, Nat.le_of_ble_eq_true rfl⟩ hl.1 rfl (Nat.le_of_ble_eq_true rfl) d_K_host_1 (fun E ce q9 H locs hex hW h1 h2 h3 => rd_out hnt hlk hW (xr1 E hex) h1 h2 h3 (by decide) (by decide)) (fun rr MM H locs hp hW => ?_)
  obtain ⟨r1, er1, rfl, rfl⟩ := hp
  have hf := vr1 _ er1
  refine lv_iload_n hx hb d_K_host_4 rfl (lv_at hl 2 rfl) ?_
  refine lv_iconst (v := (-1)) hx hb d_K_host_5 (by decide) ?_
  refine lv_bipush (v := 9) hx hb d_K_host_6 (by decide) ?_
  obtain ⟨or2, qr2, xr2, vr2⟩ := rd_b_run hf
  refine rd_callS (As := [.int p2, .int (-1), .int 9]) (rest := []) rd_gd C9 hTh hW (c_K_requireRange hls p2 (-1) 9 qr2) kc_K_requireRange ki_K_requireRange l_K_38 rfl ⟨Nat.le_of_ble_eq_true rfl, Nat.le_of_ble_eq_true rfl⟩ ⟨Nat.le_of_ble_eq_true rfl, Nat.le_of_ble_eq_true rfl⟩ hl.1 rfl (Nat.le_of_ble_eq_true rfl) d_K_host_8 (fun E ce q9 H locs hex hW h1 h2 h3 => rd_out hnt hlk hW (xr2 E hex) h1 h2 h3 (by decide) (by decide)) (fun rr MM H locs hp hW => ?_)
  obtain ⟨r2, er2, rfl, rfl⟩ := hp
  have hf := vr2 _ er2
  refine lv_iload_n hx hb d_K_host_11 rfl (lv_at hl 2 rfl) ?_
  refine lv_iconst (v := (-1)) hx hb d_K_host_12 (by decide) ?_
  refine lv_icmp_ne (tgt := 25) hx hb d_K_host_13 (by decide) (fun c3 => ?_) (fun c3 => ?_)
  · have hf := rd_f hf c3
    refine lv_iload_n hx hb d_K_host_25 rfl (lv_at hl 3 rfl) ?_
    refine lv_iconst (v := 1) hx hb d_K_host_26 (by decide) ?_
    refine lv_sipush (v := 999) hx hb d_K_host_27 (by decide) ?_
    obtain ⟨or4, qr4, xr4, vr4⟩ := rd_b_run hf
    refine rd_callS (As := [.int p3, .int 1, .int 999]) (rest := []) rd_gd C9 hTh hW (c_K_requireRange hls p3 1 999 qr4) kc_K_requireRange ki_K_requireRange l_K_38 rfl ⟨Nat.le_of_ble_eq_true rfl, Nat.le_of_ble_eq_true rfl⟩ ⟨Nat.le_of_ble_eq_true rfl, Nat.le_of_ble_eq_true rfl⟩ hl.1 rfl (Nat.le_of_ble_eq_true rfl) d_K_host_30 (fun E ce q9 H locs hex hW h1 h2 h3 => rd_out hnt hlk hW (xr4 E hex) h1 h2 h3 (by decide) (by decide)) (fun rr MM H locs hp hW => ?_)
    obtain ⟨r4, er4, rfl, rfl⟩ := hp
    have hf := vr4 _ er4
    refine lv_aload_n hx hb d_K_host_33 rfl (lv_at hl 0 rfl) ?_
    refine lv_iload_n hx hb d_K_host_34 rfl (lv_at hl 2 rfl) ?_
    obtain ⟨or5, qr5, xr5, vr5⟩ := rd_b_run hf
    refine rd_callV (As := [.int p2]) (rest := []) rd_gd C9 hTh hW (c_K_domainThere hls p2 qr5) kc_K_domainThere ki_K_domainThere ks_K_domainThere l_K_65 rfl (lt_K) (ce_K) rfl ⟨Nat.le_of_ble_eq_true rfl, Nat.le_of_ble_eq_true rfl⟩ ⟨Nat.le_of_ble_eq_true rfl, Nat.le_of_ble_eq_true rfl⟩ hl.1 rfl (Nat.le_of_ble_eq_true rfl) d_K_host_35 (fun E ce q9 H locs hex hW h1 h2 h3 => rd_out hnt hlk hW (xr5 E hex) h1 h2 h3 (by decide) (by decide)) (fun rr MM H locs hp hW => ?_)
    obtain ⟨r5, er5, rfl, rfl, br5_0⟩ := hp
    have hf := vr5 _ er5
    refine gf_D_owner C9 hW br5_0 l_K_69 d_K_host_38 ?_
    refine lv_iload_n hx hb d_K_host_41 rfl (lv_at hl 1 rfl) ?_
    obtain ⟨or6, qr6, xr6, vr6⟩ := rd_b_run hf
    refine rd_callS (As := [.int ((M (37 + 8 * r5)).1 4), .int p1]) (rest := []) rd_gd C9 hTh hW (c_K_requireOwner hls ((M (37 + 8 * r5)).1 4) p1 qr6) kc_K_requireOwner ki_K_requireOwner l_K_72 rfl ⟨Nat.le_of_ble_eq_true rfl, Nat.le_of_ble_eq_true rfl⟩ ⟨Nat.le_of_ble_eq_true rfl, Nat.le_of_ble_eq_true rfl⟩ hl.1 rfl (Nat.le_of_ble_eq_true rfl) d_K_host_42 (fun E ce q9 H locs hex hW h1 h2 h3 => rd_out hnt hlk hW (xr6 E hex) h1 h2 h3 (by decide) (by decide)) (fun rr MM H locs hp hW => ?_)
    obtain ⟨r6, er6, rfl, rfl⟩ := hp
    have hf := vr6 _ er6
    refine lv_aload_n hx hb d_K_host_45 rfl (lv_at hl 0 rfl) ?_
    refine gf_K_shelves C9 hW l_K_22 d_K_host_46 ?_
    refine lv_iconst (v := 1) hx hb d_K_host_49 (by decide) ?_
    refine al_shelves C9 hW (i := 1) (by decide) (show rd_in 1 2 by decide) d_K_host_50 ?_
    obtain ⟨or7, qr7, xr7, vr7⟩ := rd_b_run hf
    refine rd_callS (As := [.ref (ad (16 + 10 * 1))]) (rest := []) rd_gd C9 hTh hW (c_K_requireShelfRoom hls 1 (by decide) qr7) kc_K_requireShelfRoom ki_K_requireShelfRoom l_K_57 rfl ⟨Nat.le_of_ble_eq_true rfl, Nat.le_of_ble_eq_true rfl⟩ ⟨Nat.le_of_ble_eq_true rfl, Nat.le_of_ble_eq_true rfl⟩ hl.1 rfl (Nat.le_of_ble_eq_true rfl) d_K_host_51 (fun E ce q9 H locs hex hW h1 h2 h3 => rd_out hnt hlk hW (xr7 E hex) h1 h2 h3 (by decide) (by decide)) (fun rr MM H locs hp hW => ?_)
    obtain ⟨r7, er7, rfl, rfl⟩ := hp
    have hf := vr7 _ er7
    refine lv_aload_n hx hb d_K_host_54 rfl (lv_at hl 0 rfl) ?_
    refine gf_K_shelves C9 hW l_K_22 d_K_host_55 ?_
    refine lv_iconst (v := 1) hx hb d_K_host_58 (by decide) ?_
    refine al_shelves C9 hW (i := 1) (by decide) (show rd_in 1 2 by decide) d_K_host_59 ?_
    refine lv_iload_n hx hb d_K_host_60 rfl (lv_at hl 1 rfl) ?_
    refine lv_iload_n hx hb d_K_host_61 rfl (lv_at hl 2 rfl) ?_
    refine lv_iload_n hx hb d_K_host_62 rfl (lv_at hl 3 rfl) ?_
    obtain ⟨r8, qr8, hf⟩ := rd_bind hf
    refine rd_callV (As := [.int p1, .int p2, .int p3]) (rest := []) rd_gd C9 hTh hW (c_S_make hls 1 p1 p2 p3 (by decide) qr8) kc_S_make ki_S_make ks_S_make l_K_61 rfl (lt_S (by decide)) (ce_S (by decide)) rfl ⟨Nat.le_of_ble_eq_true rfl, Nat.le_of_ble_eq_true rfl⟩ ⟨Nat.le_of_ble_eq_true rfl, Nat.le_of_ble_eq_true rfl⟩ hl.1 rfl (Nat.le_of_ble_eq_true rfl) d_K_host_63 (fun E _ _ _ _ hex => hex.elim) (fun rr MM H locs hp hW => ?_)
    obtain ⟨rfl, rfl⟩ := hp
    obtain rfl := Option.some.inj hf
    exact rd_iret C9 hlk hret hW ⟨_, rfl, rfl, rfl⟩ (by decide) (by decide) d_K_host_66
  · have hf := rd_t hf c3
    refine lv_iload_n hx hb d_K_host_16 rfl (lv_at hl 3 rfl) ?_
    refine lv_iconst (v := 0) hx hb d_K_host_17 (by decide) ?_
    refine lv_iconst (v := 0) hx hb d_K_host_18 (by decide) ?_
    obtain ⟨or9, qr9, xr9, vr9⟩ := rd_b_run hf
    refine rd_callS (As := [.int p3, .int 0, .int 0]) (rest := []) rd_gd C9 hTh hW (c_K_requireRange hls p3 0 0 qr9) kc_K_requireRange ki_K_requireRange l_K_38 rfl ⟨Nat.le_of_ble_eq_true rfl, Nat.le_of_ble_eq_true rfl⟩ ⟨Nat.le_of_ble_eq_true rfl, Nat.le_of_ble_eq_true rfl⟩ hl.1 rfl (Nat.le_of_ble_eq_true rfl) d_K_host_19 (fun E ce q9 H locs hex hW h1 h2 h3 => rd_out hnt hlk hW (xr9 E hex) h1 h2 h3 (by decide) (by decide)) (fun rr MM H locs hp hW => ?_)
    obtain ⟨r9, er9, rfl, rfl⟩ := hp
    have hf := vr9 _ er9
    refine lv_goto (tgt := 45) hx hb d_K_host_22 (by decide) ?_
    refine lv_aload_n hx hb d_K_host_45 rfl (lv_at hl 0 rfl) ?_
    refine gf_K_shelves C9 hW l_K_22 d_K_host_46 ?_
    refine lv_iconst (v := 1) hx hb d_K_host_49 (by decide) ?_
    refine al_shelves C9 hW (i := 1) (by decide) (show rd_in 1 2 by decide) d_K_host_50 ?_
    obtain ⟨or10, qr10, xr10, vr10⟩ := rd_b_run hf
    refine rd_callS (As := [.ref (ad (16 + 10 * 1))]) (rest := []) rd_gd C9 hTh hW (c_K_requireShelfRoom hls 1 (by decide) qr10) kc_K_requireShelfRoom ki_K_requireShelfRoom l_K_57 rfl ⟨Nat.le_of_ble_eq_true rfl, Nat.le_of_ble_eq_true rfl⟩ ⟨Nat.le_of_ble_eq_true rfl, Nat.le_of_ble_eq_true rfl⟩ hl.1 rfl (Nat.le_of_ble_eq_true rfl) d_K_host_51 (fun E ce q9 H locs hex hW h1 h2 h3 => rd_out hnt hlk hW (xr10 E hex) h1 h2 h3 (by decide) (by decide)) (fun rr MM H locs hp hW => ?_)
    obtain ⟨r10, er10, rfl, rfl⟩ := hp
    have hf := vr10 _ er10
    refine lv_aload_n hx hb d_K_host_54 rfl (lv_at hl 0 rfl) ?_
    refine gf_K_shelves C9 hW l_K_22 d_K_host_55 ?_
    refine lv_iconst (v := 1) hx hb d_K_host_58 (by decide) ?_
    refine al_shelves C9 hW (i := 1) (by decide) (show rd_in 1 2 by decide) d_K_host_59 ?_
    refine lv_iload_n hx hb d_K_host_60 rfl (lv_at hl 1 rfl) ?_
    refine lv_iload_n hx hb d_K_host_61 rfl (lv_at hl 2 rfl) ?_
    refine lv_iload_n hx hb d_K_host_62 rfl (lv_at hl 3 rfl) ?_
    obtain ⟨r11, qr11, hf⟩ := rd_bind hf
    refine rd_callV (As := [.int p1, .int p2, .int p3]) (rest := []) rd_gd C9 hTh hW (c_S_make hls 1 p1 p2 p3 (by decide) qr11) kc_S_make ki_S_make ks_S_make l_K_61 rfl (lt_S (by decide)) (ce_S (by decide)) rfl ⟨Nat.le_of_ble_eq_true rfl, Nat.le_of_ble_eq_true rfl⟩ ⟨Nat.le_of_ble_eq_true rfl, Nat.le_of_ble_eq_true rfl⟩ hl.1 rfl (Nat.le_of_ble_eq_true rfl) d_K_host_63 (fun E _ _ _ _ hex => hex.elim) (fun rr MM H locs hp hW => ?_)
    obtain ⟨rfl, rfl⟩ := hp
    obtain rfl := Option.some.inj hf
    exact rd_iret C9 hlk hret hW ⟨_, rfl, rfl, rfl⟩ (by decide) (by decide) d_K_host_66
def f_S_has (M : rd_M) (r0_0 : Nat) (p1 : Int32) : Option (Int32) :=
  if p1 < 0 then
    some 0
  else
    if ((M (16 + 10 * r0_0)).1 1) ≤ p1 then
      some 0
    else
      if rd_in p1 8 then
      rd_k (if ((M (18 + 10 * r0_0 + p1.toNatClampNeg)).1 0) = 0 then 0 else 1 : Int32) fun z5 =>
      some z5
      else none
set_option maxRecDepth 100000 in
set_option maxHeartbeats 4000000 in
theorem c_S_has {l : Launch} (hls : l.stackTraces = false) {D : va_G} {Ka : Nat → ClassId} {ad : Nat → Nat} {M : rd_M} (r0_0 : Nat) (p1 : Int32) (h0_0 : r0_0 < 2) {o : Int32} (hf : f_S_has M r0_0 p1 = some o) :
    rd_Met l y_S_has b_S_has 2 (some .boolean) (0, 0, 0, 0) rd_T rd_ss D rd_cl (rd_ty Ka) (dk_L Ka) ad M [.ref (ad (16 + 10 * r0_0)), .int p1] (fun r M1 => r = some (.int o) ∧ M = M1) (fun _ => False) := by
  refine rd_body (by decide) (Nat.le_of_ble_eq_true rfl) ?_
  intro p e s m below meth c C9 hlk hret hnt hTh hW ls hl
  have hx := C9.1.1
  have hb := C9.1.2.1
  have hl : lv_has ls 2 [(0, .ref (ad (16 + 10 * r0_0))), (1, .int p1)] := hl
  unfold f_S_has at hf
  refine lv_iload_n hx hb d_S_has_0 rfl (lv_at hl 1 rfl) ?_
  refine lv_if_lt (tgt := 28) hx hb d_S_has_1 (by decide) (fun c1 => ?_) (fun c1 => ?_)
  · have hf := rd_t hf c1
    refine lv_iconst (v := 0) hx hb d_S_has_28 (by decide) ?_
    obtain rfl := Option.some.inj hf
    exact rd_zret C9 hlk hret hW (Or.inl rfl) ⟨rfl, rfl⟩ (by decide) (by decide) d_S_has_29
  · have hf := rd_f hf c1
    refine lv_iload_n hx hb d_S_has_4 rfl (lv_at hl 1 rfl) ?_
    refine lv_aload_n hx hb d_S_has_5 rfl (lv_at hl 0 rfl) ?_
    refine gf_S_made C9 hW h0_0 l_S_18 d_S_has_6 ?_
    refine lv_icmp_ge (tgt := 28) hx hb d_S_has_9 (by decide) (fun c2 => ?_) (fun c2 => ?_)
    · have hf := rd_t hf c2
      refine lv_iconst (v := 0) hx hb d_S_has_28 (by decide) ?_
      obtain rfl := Option.some.inj hf
      exact rd_zret C9 hlk hret hW (Or.inl rfl) ⟨rfl, rfl⟩ (by decide) (by decide) d_S_has_29
    · have hf := rd_f hf c2
      refine lv_aload_n hx hb d_S_has_12 rfl (lv_at hl 0 rfl) ?_
      refine gf_S_things C9 hW h0_0 l_S_11 d_S_has_13 ?_
      refine lv_iload_n hx hb d_S_has_16 rfl (lv_at hl 1 rfl) ?_
      obtain ⟨g3, hf⟩ := rd_g hf
      refine al_things C9 hW h0_0 rfl g3 d_S_has_17 ?_
      refine gf_T_there C9 hW h0_0 (rd_lt g3) l_S_22 d_S_has_18 ?_
      obtain ⟨z5, hz5, hf⟩ := rd_k_el hf
      refine rd_sel z5 (fun z => F0 m 29 ls (.int z :: [])) hz5 (fun hJ => ?_) ?_
      · refine lv_if_eq (tgt := 28) hx hb d_S_has_21 (by decide) (fun c4 => ?_) (fun c4 => ?_)
        · have hJ := rd_selt (g := (fun z => F0 m 29 ls (.int z :: []))) hJ c4
          refine lv_iconst (v := 0) hx hb d_S_has_28 (by decide) ?_
          exact hJ
        · have hJ := rd_self (g := (fun z => F0 m 29 ls (.int z :: []))) hJ c4
          refine lv_iconst (v := 1) hx hb d_S_has_24 (by decide) ?_
          refine lv_goto (tgt := 29) hx hb d_S_has_25 (by decide) ?_
          exact hJ
      have hb9 : z5 = 0 ∨ z5 = 1 := by rw [hz5]; split <;> simp
      obtain rfl := Option.some.inj hf
      exact rd_zret C9 hlk hret hW hb9 ⟨rfl, rfl⟩ (by decide) (by decide) d_S_has_29
def f_K_thingThere (M : rd_M) (p1 : Int32) (p2 : Int32) : Option (String ⊕ (Nat × Nat)) :=
  if rd_in p1 2 then
  (f_S_has M p1.toNatClampNeg p2).bind fun r2 =>
  if r2 = 0 then
    some (.inl "java/util/NoSuchElementException")
  else
    if rd_in p1 2 then
    if rd_in p2 8 then
    some (.inr (p1.toNatClampNeg, p2.toNatClampNeg))
    else none
    else none
  else none
set_option maxRecDepth 100000 in
set_option maxHeartbeats 4000000 in
theorem c_K_thingThere {l : Launch} (hls : l.stackTraces = false) {D : va_G} {Ka : Nat → ClassId} {ad : Nat → Nat} {M : rd_M} (p1 : Int32) (p2 : Int32)  {o : String ⊕ (Nat × Nat)} (hf : f_K_thingThere M p1 p2 = some o) :
    rd_Met l y_K_thingThere b_K_thingThere 3 (some (.object "RegistryDesk$Thing")) (6, 90, 1, 6) rd_T rd_ss D rd_cl (rd_ty Ka) (dk_L Ka) ad M [.ref (ad 0), .int p1, .int p2] (fun r M1 => ∃ v, o = .inr v ∧ r = some (.ref (ad (18 + 10 * v.1 + v.2))) ∧ M = M1 ∧ v.1 < 2 ∧ v.2 < 8) (fun E => o = .inl E) := by
  refine rd_body (by decide) (Nat.le_of_ble_eq_true rfl) ?_
  intro p e s m below meth c C9 hlk hret hnt hTh hW ls hl
  have hx := C9.1.1
  have hb := C9.1.2.1
  have hl : lv_has ls 3 [(0, .ref (ad 0)), (1, .int p1), (2, .int p2)] := hl
  unfold f_K_thingThere at hf
  refine lv_aload_n hx hb d_K_thingThere_0 rfl (lv_at hl 0 rfl) ?_
  refine gf_K_shelves C9 hW l_K_22 d_K_thingThere_1 ?_
  refine lv_iload_n hx hb d_K_thingThere_4 rfl (lv_at hl 1 rfl) ?_
  obtain ⟨g1, hf⟩ := rd_g hf
  refine al_shelves C9 hW rfl g1 d_K_thingThere_5 ?_
  refine lv_iload_n hx hb d_K_thingThere_6 rfl (lv_at hl 2 rfl) ?_
  obtain ⟨r2, qr2, hf⟩ := rd_bind hf
  refine rd_callV (As := [.int p2]) (rest := []) rd_gd C9 hTh hW (c_S_has hls p1.toNatClampNeg p2 (rd_lt g1) qr2) kc_S_has ki_S_has ks_S_has l_K_285 rfl (lt_S (rd_lt g1)) (ce_S (rd_lt g1)) rfl ⟨Nat.le_of_ble_eq_true rfl, Nat.le_of_ble_eq_true rfl⟩ ⟨Nat.le_of_ble_eq_true rfl, Nat.le_of_ble_eq_true rfl⟩ hl.1 rfl (Nat.le_of_ble_eq_true rfl) d_K_thingThere_7 (fun E _ _ _ _ hex => hex.elim) (fun rr MM H locs hp hW => ?_)
  obtain ⟨rfl, rfl⟩ := hp
  refine lv_if_ne (tgt := 24) hx hb d_K_thingThere_10 (by decide) (fun c3 => ?_) (fun c3 => ?_)
  · have hf := rd_f hf c3
    refine lv_aload_n hx hb d_K_thingThere_24 rfl (lv_at hl 0 rfl) ?_
    refine gf_K_shelves C9 hW l_K_22 d_K_thingThere_25 ?_
    refine lv_iload_n hx hb d_K_thingThere_28 rfl (lv_at hl 1 rfl) ?_
    obtain ⟨g4, hf⟩ := rd_g hf
    refine al_shelves C9 hW rfl g4 d_K_thingThere_29 ?_
    refine gf_S_things C9 hW (rd_lt g4) l_K_290 d_K_thingThere_30 ?_
    refine lv_iload_n hx hb d_K_thingThere_33 rfl (lv_at hl 2 rfl) ?_
    obtain ⟨g5, hf⟩ := rd_g hf
    refine al_things C9 hW (rd_lt g4) rfl g5 d_K_thingThere_34 ?_
    obtain rfl := Option.some.inj hf
    exact rd_aret C9 hlk hret hW ⟨_, rfl, rfl, rfl, (rd_lt g4), (rd_lt g5)⟩ (by decide) (by decide) d_K_thingThere_35
  · have hf := rd_t hf c3
    obtain rfl := Option.some.inj hf
    exact rd_throwXW (text := "the contact or host is not there") (Y1 := "java/lang/RuntimeException") (names := ["java/lang/Exception"]) hls C9 hnt hlk hTh hW hl.1 dn_0 dn_1 dn_2 dn_5 (by decide) rd_gd (by decide) (by decide) l_K_202 in_NoSuchElementException (List.mem_of_getElem? (i := 6) rfl) ta_K_NoSuchElementException d_K_thingThere_13 d_K_thingThere_16 d_K_thingThere_17 d_K_thingThere_20 d_K_thingThere_23 (Nat.le_of_ble_eq_true rfl) (Nat.le_of_ble_eq_true rfl) (Nat.le_of_ble_eq_true rfl) (Nat.le_of_ble_eq_true rfl) rfl (Nat.le_of_ble_eq_true rfl) (Nat.le_of_ble_eq_true rfl)
def lb_K_usesOf_5 (M : rd_M) (q1 : Int32) (q2 : Int32) (Kf : Int32 → Int32 → Option (Int32)) (rec : Int32 → Int32 → Option (Int32)) (v5_4 : Int32) (v5_3 : Int32) : Option (Int32) :=
  if 10 ≤ v5_4 then
    Kf v5_4 v5_3
  else
    if rd_in v5_4 10 then
    (f_D_uses M v5_4.toNatClampNeg q1 q2).bind fun r3 =>
    if r3 = 0 then
      rec (v5_4 + 1) v5_3
    else
      rec (v5_4 + 1) (v5_3 + 1)
    else none
def f_K_usesOf (M : rd_M) (p1 : Int32) (p2 : Int32) : Option (Int32) :=
  rd_it (fun _ _ => none) (lb_K_usesOf_5 M p1 p2 (fun w5_4 w5_3 =>
    some w5_3)) 64 0 0
set_option maxRecDepth 100000 in
set_option maxHeartbeats 4000000 in
theorem c_K_usesOf {l : Launch} (hls : l.stackTraces = false) {D : va_G} {Ka : Nat → ClassId} {ad : Nat → Nat} {M : rd_M} (p1 : Int32) (p2 : Int32)  {o : Int32} (hf : f_K_usesOf M p1 p2 = some o) :
    rd_Met l y_K_usesOf b_K_usesOf 5 (some .int) (2, 44, 0, 0) rd_T rd_ss D rd_cl (rd_ty Ka) (dk_L Ka) ad M [.ref (ad 0), .int p1, .int p2] (fun r M1 => r = some (.int o) ∧ M = M1) (fun _ => False) := by
  refine rd_body (by decide) (Nat.le_of_ble_eq_true rfl) ?_
  intro p e s m below meth c C9 hlk hret hnt hTh hW ls hl
  have hx := C9.1.1
  have hb := C9.1.2.1
  have hl : lv_has ls 5 [(0, .ref (ad 0)), (1, .int p1), (2, .int p2)] := hl
  unfold f_K_usesOf at hf
  refine lv_iconst (v := 0) hx hb d_K_usesOf_0 (by decide) ?_
  refine lv_istore_n (lv' := [(3, .int 0), (0, .ref (ad 0)), (1, .int p1), (2, .int p2)]) hx hb d_K_usesOf_1 rfl hl (by decide) rfl (fun ls hl => ?_)
  refine lv_iconst (v := 0) hx hb d_K_usesOf_2 (by decide) ?_
  refine lv_istore (lv' := [(4, .int 0), (3, .int 0), (0, .ref (ad 0)), (1, .int p1), (2, .int p2)]) hx hb d_K_usesOf_3 hl (by decide) rfl (fun ls hl => ?_)
  have loop_5 : ∀ (Kf : Int32 → Int32 → Option (Int32)) (hk_5 : ∀ (w5_4 : Int32) (w5_3 : Int32) (H : Heap) (locs : List Loc) (ls : Array Slot), Kf w5_4 w5_3 = some o → rd_W D rd_cl (dk_L Ka) ad (rd_A (dk_L Ka) ad s.heap.size) s.heap M H locs → lv_has ls 5 [(4, .int w5_4), (3, .int w5_3), (0, .ref (ad 0)), (1, .int p1), (2, .int p2)] → W p l e { frames := 2, cells := 0, slots := 0, locals := 44 } s m [.ref (ad 0), .int p1, .int p2].toArray below meth c H locs 0 0 (rd_Z below (rd_O D rd_cl (dk_L Ka) ad M (rd_A (dk_L Ka) ad s.heap.size) 0 0 (fun r M1 => r = some (.int o) ∧ M = M1) (fun _ => False)) s) (F0 m 36 ls [])) (fu : Nat) (v5_4 : Int32) (v5_3 : Int32) (H : Heap) (locs : List Loc) (ls : Array Slot), rd_it (fun _ _ => none) (lb_K_usesOf_5 M p1 p2 Kf) fu v5_4 v5_3 = some o → rd_W D rd_cl (dk_L Ka) ad (rd_A (dk_L Ka) ad s.heap.size) s.heap M H locs → lv_has ls 5 [(4, .int v5_4), (3, .int v5_3), (0, .ref (ad 0)), (1, .int p1), (2, .int p2)] → W p l e { frames := 2, cells := 0, slots := 0, locals := 44 } s m [.ref (ad 0), .int p1, .int p2].toArray below meth c H locs 0 0 (rd_Z below (rd_O D rd_cl (dk_L Ka) ad M (rd_A (dk_L Ka) ad s.heap.size) 0 0 (fun r M1 => r = some (.int o) ∧ M = M1) (fun _ => False)) s) (F0 m 5 ls []) := by
    intro Kf hk_5 fu
    induction fu with
    | zero => intro _ _ H locs ls hf; exact (rd_nf hf).elim
    | succ fu ih_5 =>
      intro v5_4 v5_3 H locs ls hf hW hl
      rw [rd_it_s] at hf
      unfold lb_K_usesOf_5 at hf
      refine lv_iload hx hb d_K_usesOf_5 (lv_at hl 0 rfl) ?_
      refine lv_bipush (v := 10) hx hb d_K_usesOf_7 (by decide) ?_
      refine lv_icmp_ge (tgt := 36) hx hb d_K_usesOf_9 (by decide) (fun c5 => ?_) (fun c5 => ?_)
      · have hf := rd_t hf c5
        exact hk_5 _ _ _ _ _ hf hW (lv_sub hl [0, 1, 2, 3, 4] rfl)
      · have hf := rd_f hf c5
        refine lv_aload_n hx hb d_K_usesOf_12 rfl (lv_at hl 2 rfl) ?_
        refine gf_K_domains C9 hW l_K_29 d_K_usesOf_13 ?_
        refine lv_iload hx hb d_K_usesOf_16 (lv_at hl 0 rfl) ?_
        obtain ⟨g6, hf⟩ := rd_g hf
        refine al_domains C9 hW rfl g6 d_K_usesOf_18 ?_
        refine lv_iload_n hx hb d_K_usesOf_19 rfl (lv_at hl 3 rfl) ?_
        refine lv_iload_n hx hb d_K_usesOf_20 rfl (lv_at hl 4 rfl) ?_
        obtain ⟨r7, qr7, hf⟩ := rd_bind hf
        refine rd_callV (As := [.int p1, .int p2]) (rest := []) rd_gd C9 hTh hW (c_D_uses hls v5_4.toNatClampNeg p1 p2 (rd_lt g6) qr7) kc_D_uses ki_D_uses ks_D_uses l_K_346 rfl (lt_D (rd_lt g6)) (ce_D (rd_lt g6)) rfl ⟨Nat.le_of_ble_eq_true rfl, Nat.le_of_ble_eq_true rfl⟩ ⟨Nat.le_of_ble_eq_true rfl, Nat.le_of_ble_eq_true rfl⟩ hl.1 rfl (Nat.le_of_ble_eq_true rfl) d_K_usesOf_21 (fun E _ _ _ _ hex => hex.elim) (fun rr MM H locs hp hW => ?_)
        obtain ⟨rfl, rfl⟩ := hp
        refine lv_if_eq (tgt := 30) hx hb d_K_usesOf_24 (by decide) (fun c8 => ?_) (fun c8 => ?_)
        · have hf := rd_t hf c8
          refine lv_iinc (v := v5_4 + 1) (lv' := [(4, .int (v5_4 + 1)), (3, .int v5_3), (0, .ref (ad 0)), (1, .int p1), (2, .int p2)]) hx hb d_K_usesOf_30 hl (k := 0) rfl rfl (by decide) rfl (fun ls hl => ?_)
          refine lv_goto (tgt := 5) hx hb d_K_usesOf_33 (by decide) ?_
          exact ih_5 _ _ _ _ _ hf hW (lv_sub hl [0, 1, 2, 3, 4] rfl)
        · have hf := rd_f hf c8
          refine lv_iinc (v := v5_3 + 1) (lv' := [(3, .int (v5_3 + 1)), (4, .int v5_4), (0, .ref (ad 0)), (1, .int p1), (2, .int p2)]) hx hb d_K_usesOf_27 hl (k := 1) rfl rfl (by decide) rfl (fun ls hl => ?_)
          refine lv_iinc (v := v5_4 + 1) (lv' := [(4, .int (v5_4 + 1)), (3, .int (v5_3 + 1)), (0, .ref (ad 0)), (1, .int p1), (2, .int p2)]) hx hb d_K_usesOf_30 hl (k := 1) rfl rfl (by decide) rfl (fun ls hl => ?_)
          refine lv_goto (tgt := 5) hx hb d_K_usesOf_33 (by decide) ?_
          exact ih_5 _ _ _ _ _ hf hW (lv_sub hl [0, 1, 2, 3, 4] rfl)
  refine loop_5 _ ?_ 64 _ _ _ _ _ hf hW (lv_sub hl [0, 1, 2, 3, 4] rfl)
  intro w5_4 w5_3 H locs ls hf hW hl
  refine lv_iload_n hx hb d_K_usesOf_36 rfl (lv_at hl 1 rfl) ?_
  obtain rfl := Option.some.inj hf
  exact rd_iret C9 hlk hret hW ⟨rfl, rfl⟩ (by decide) (by decide) d_K_usesOf_37
def lb_S_howManyThere_4 (M : rd_M) (q0_0 : Nat) (Kf : Int32 → Int32 → Option (Int32)) (rec : Int32 → Int32 → Option (Int32)) (v4_2 : Int32) (v4_1 : Int32) : Option (Int32) :=
  if ((M (16 + 10 * q0_0)).1 1) ≤ v4_2 then
    Kf v4_2 v4_1
  else
    if rd_in v4_2 8 then
    if ((M (18 + 10 * q0_0 + v4_2.toNatClampNeg)).1 0) = 0 then
      rec (v4_2 + 1) v4_1
    else
      rec (v4_2 + 1) (v4_1 + 1)
    else none
def f_S_howManyThere (M : rd_M) (r0_0 : Nat) : Option (Int32) :=
  rd_it (fun _ _ => none) (lb_S_howManyThere_4 M r0_0 (fun w4_2 w4_1 =>
    some w4_1)) 64 0 0
set_option maxRecDepth 100000 in
set_option maxHeartbeats 4000000 in
theorem c_S_howManyThere {l : Launch} (hls : l.stackTraces = false) {D : va_G} {Ka : Nat → ClassId} {ad : Nat → Nat} {M : rd_M} (r0_0 : Nat) (h0_0 : r0_0 < 2) {o : Int32} (hf : f_S_howManyThere M r0_0 = some o) :
    rd_Met l y_S_howManyThere b_S_howManyThere 3 (some .int) (0, 0, 0, 0) rd_T rd_ss D rd_cl (rd_ty Ka) (dk_L Ka) ad M [.ref (ad (16 + 10 * r0_0))] (fun r M1 => r = some (.int o) ∧ M = M1) (fun _ => False) := by
  refine rd_body (by decide) (Nat.le_of_ble_eq_true rfl) ?_
  intro p e s m below meth c C9 hlk hret hnt hTh hW ls hl
  have hx := C9.1.1
  have hb := C9.1.2.1
  have hl : lv_has ls 3 [(0, .ref (ad (16 + 10 * r0_0)))] := hl
  unfold f_S_howManyThere at hf
  refine lv_iconst (v := 0) hx hb d_S_howManyThere_0 (by decide) ?_
  refine lv_istore_n (lv' := [(1, .int 0), (0, .ref (ad (16 + 10 * r0_0)))]) hx hb d_S_howManyThere_1 rfl hl (by decide) rfl (fun ls hl => ?_)
  refine lv_iconst (v := 0) hx hb d_S_howManyThere_2 (by decide) ?_
  refine lv_istore_n (lv' := [(2, .int 0), (1, .int 0), (0, .ref (ad (16 + 10 * r0_0)))]) hx hb d_S_howManyThere_3 rfl hl (by decide) rfl (fun ls hl => ?_)
  have loop_4 : ∀ (Kf : Int32 → Int32 → Option (Int32)) (hk_4 : ∀ (w4_2 : Int32) (w4_1 : Int32) (H : Heap) (locs : List Loc) (ls : Array Slot), Kf w4_2 w4_1 = some o → rd_W D rd_cl (dk_L Ka) ad (rd_A (dk_L Ka) ad s.heap.size) s.heap M H locs → lv_has ls 3 [(2, .int w4_2), (1, .int w4_1), (0, .ref (ad (16 + 10 * r0_0)))] → W p l e { frames := 0, cells := 0, slots := 0, locals := 0 } s m [.ref (ad (16 + 10 * r0_0))].toArray below meth c H locs 0 0 (rd_Z below (rd_O D rd_cl (dk_L Ka) ad M (rd_A (dk_L Ka) ad s.heap.size) 0 0 (fun r M1 => r = some (.int o) ∧ M = M1) (fun _ => False)) s) (F0 m 33 ls [])) (fu : Nat) (v4_2 : Int32) (v4_1 : Int32) (H : Heap) (locs : List Loc) (ls : Array Slot), rd_it (fun _ _ => none) (lb_S_howManyThere_4 M r0_0 Kf) fu v4_2 v4_1 = some o → rd_W D rd_cl (dk_L Ka) ad (rd_A (dk_L Ka) ad s.heap.size) s.heap M H locs → lv_has ls 3 [(2, .int v4_2), (1, .int v4_1), (0, .ref (ad (16 + 10 * r0_0)))] → W p l e { frames := 0, cells := 0, slots := 0, locals := 0 } s m [.ref (ad (16 + 10 * r0_0))].toArray below meth c H locs 0 0 (rd_Z below (rd_O D rd_cl (dk_L Ka) ad M (rd_A (dk_L Ka) ad s.heap.size) 0 0 (fun r M1 => r = some (.int o) ∧ M = M1) (fun _ => False)) s) (F0 m 4 ls []) := by
    intro Kf hk_4 fu
    induction fu with
    | zero => intro _ _ H locs ls hf; exact (rd_nf hf).elim
    | succ fu ih_4 =>
      intro v4_2 v4_1 H locs ls hf hW hl
      rw [rd_it_s] at hf
      unfold lb_S_howManyThere_4 at hf
      refine lv_iload_n hx hb d_S_howManyThere_4 rfl (lv_at hl 0 rfl) ?_
      refine lv_aload_n hx hb d_S_howManyThere_5 rfl (lv_at hl 2 rfl) ?_
      refine gf_S_made C9 hW h0_0 l_S_18 d_S_howManyThere_6 ?_
      refine lv_icmp_ge (tgt := 33) hx hb d_S_howManyThere_9 (by decide) (fun c4 => ?_) (fun c4 => ?_)
      · have hf := rd_t hf c4
        exact hk_4 _ _ _ _ _ hf hW (lv_sub hl [0, 1, 2] rfl)
      · have hf := rd_f hf c4
        refine lv_aload_n hx hb d_S_howManyThere_12 rfl (lv_at hl 2 rfl) ?_
        refine gf_S_things C9 hW h0_0 l_S_11 d_S_howManyThere_13 ?_
        refine lv_iload_n hx hb d_S_howManyThere_16 rfl (lv_at hl 0 rfl) ?_
        obtain ⟨g5, hf⟩ := rd_g hf
        refine al_things C9 hW h0_0 rfl g5 d_S_howManyThere_17 ?_
        refine gf_T_there C9 hW h0_0 (rd_lt g5) l_S_22 d_S_howManyThere_18 ?_
        refine lv_if_eq (tgt := 27) hx hb d_S_howManyThere_21 (by decide) (fun c6 => ?_) (fun c6 => ?_)
        · have hf := rd_t hf c6
          refine lv_iinc (v := v4_2 + 1) (lv' := [(2, .int (v4_2 + 1)), (1, .int v4_1), (0, .ref (ad (16 + 10 * r0_0)))]) hx hb d_S_howManyThere_27 hl (k := 0) rfl rfl (by decide) rfl (fun ls hl => ?_)
          refine lv_goto (tgt := 4) hx hb d_S_howManyThere_30 (by decide) ?_
          exact ih_4 _ _ _ _ _ hf hW (lv_sub hl [0, 1, 2] rfl)
        · have hf := rd_f hf c6
          refine lv_iinc (v := v4_1 + 1) (lv' := [(1, .int (v4_1 + 1)), (2, .int v4_2), (0, .ref (ad (16 + 10 * r0_0)))]) hx hb d_S_howManyThere_24 hl (k := 1) rfl rfl (by decide) rfl (fun ls hl => ?_)
          refine lv_iinc (v := v4_2 + 1) (lv' := [(2, .int (v4_2 + 1)), (1, .int (v4_1 + 1)), (0, .ref (ad (16 + 10 * r0_0)))]) hx hb d_S_howManyThere_27 hl (k := 1) rfl rfl (by decide) rfl (fun ls hl => ?_)
          refine lv_goto (tgt := 4) hx hb d_S_howManyThere_30 (by decide) ?_
          exact ih_4 _ _ _ _ _ hf hW (lv_sub hl [0, 1, 2] rfl)
  refine loop_4 _ ?_ 64 _ _ _ _ _ hf hW (lv_sub hl [0, 1, 2] rfl)
  intro w4_2 w4_1 H locs ls hf hW hl
  refine lv_iload_n hx hb d_S_howManyThere_33 rfl (lv_at hl 1 rfl) ?_
  obtain rfl := Option.some.inj hf
  exact rd_iret C9 hlk hret hW ⟨rfl, rfl⟩ (by decide) (by decide) d_S_howManyThere_34
