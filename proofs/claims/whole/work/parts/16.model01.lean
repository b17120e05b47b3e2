def lb_N_users_5 (M : rd_M) (q1 : Int32) (q2 : Int32) (Kf : Int32 → Int32 → Option (Int32)) (rec : Int32 → Int32 → Option (Int32)) (v5_4 : Int32) (v5_3 : Int32) : Option (Int32) :=
  if 10 ≤ v5_4 then
    Kf v5_4 v5_3
  else
    if rd_in v5_4 10 then
    if ((M 10).1 v5_4.toNatClampNeg) < 0 then
      rec (v5_4 + 1) v5_3
    else
      (f_N_placeOf M v5_4 q1 q2).bind fun r4 =>
      if r4 < 0 then
        rec (v5_4 + 1) v5_3
      else
        rec (v5_4 + 1) (v5_3 + 1)
    else none
def f_N_users (M : rd_M) (p1 : Int32) (p2 : Int32) : Option (Int32) :=
  rd_it (fun _ _ => none) (lb_N_users_5 M p1 p2 (fun w5_4 w5_3 =>
    some w5_3)) 64 0 0
set_option maxRecDepth 100000 in
set_option maxHeartbeats 4000000 in
theorem c_N_users {l : Launch} (hls : l.stackTraces = false) {D : va_G} {Ka : Nat → ClassId} {ad : Nat → Nat} {M : rd_M} (p1 : Int32) (p2 : Int32)  {o : Int32} (hf : f_N_users M p1 p2 = some o) :
    rd_Met l y_N_users b_N_users 5 (some .int) (1, 24, 0, 0) rd_T rd_ss D rd_cl (rd_ty Ka) (rm_L Ka) ad M [.ref (ad 0), .int p1, .int p2] (fun r M1 => r = some (.int o) ∧ M = M1) (fun _ => False) := by
  refine rd_body (by decide) (Nat.le_of_ble_eq_true rfl) ?_
  intro p e s m below meth c C9 hlk hret hnt hTh hW ls hl
  have hx := C9.1.1
  have hb := C9.1.2.1
  have hl : lv_has ls 5 [(0, .ref (ad 0)), (1, .int p1), (2, .int p2)] := hl
  unfold f_N_users at hf
  refine lv_iconst (v := 0) hx hb d_N_users_0 (by decide) ?_
  refine lv_istore_n (lv' := [(3, .int 0), (0, .ref (ad 0)), (1, .int p1), (2, .int p2)]) hx hb d_N_users_1 rfl hl (by decide) rfl (fun ls hl => ?_)
  refine lv_iconst (v := 0) hx hb d_N_users_2 (by decide) ?_
  refine lv_istore (lv' := [(4, .int 0), (3, .int 0), (0, .ref (ad 0)), (1, .int p1), (2, .int p2)]) hx hb d_N_users_3 hl (by decide) rfl (fun ls hl => ?_)
  have loop_5 : ∀ (Kf : Int32 → Int32 → Option (Int32)) (hk_5 : ∀ (w5_4 : Int32) (w5_3 : Int32) (H : Heap) (locs : List Loc) (ls : Array Slot), Kf w5_4 w5_3 = some o → rd_W D rd_cl (rm_L Ka) ad (rd_A (rm_L Ka) ad s.heap.size) s.heap M H locs → lv_has ls 5 [(4, .int w5_4), (3, .int w5_3), (0, .ref (ad 0)), (1, .int p1), (2, .int p2)] → W p l e { frames := 1, cells := 0, slots := 0, locals := 24 } s m [.ref (ad 0), .int p1, .int p2].toArray below meth c H locs 0 0 (rd_Z below (rd_O D rd_cl (rm_L Ka) ad M (rd_A (rm_L Ka) ad s.heap.size) 0 0 (fun r M1 => r = some (.int o) ∧ M = M1) (fun _ => False)) s) (F0 m 42 ls [])) (fu : Nat) (v5_4 : Int32) (v5_3 : Int32) (H : Heap) (locs : List Loc) (ls : Array Slot), rd_it (fun _ _ => none) (lb_N_users_5 M p1 p2 Kf) fu v5_4 v5_3 = some o → rd_W D rd_cl (rm_L Ka) ad (rd_A (rm_L Ka) ad s.heap.size) s.heap M H locs → lv_has ls 5 [(4, .int v5_4), (3, .int v5_3), (0, .ref (ad 0)), (1, .int p1), (2, .int p2)] → W p l e { frames := 1, cells := 0, slots := 0, locals := 24 } s m [.ref (ad 0), .int p1, .int p2].toArray below meth c H locs 0 0 (rd_Z below (rd_O D rd_cl (rm_L Ka) ad M (rd_A (rm_L Ka) ad s.heap.size) 0 0 (fun r M1 => r = some (.int o) ∧ M = M1) (fun _ => False)) s) (F0 m 5 ls []) := by
    intro Kf hk_5 fu
    induction fu with
    | zero => intro _ _ H locs ls hf; exact (rd_nf hf).elim
    | succ fu ih_5 =>
      intro v5_4 v5_3 H locs ls hf hW hl
      rw [rd_it_s] at hf
      unfold lb_N_users_5 at hf
      refine lv_iload hx hb d_N_users_5 (lv_at hl 0 rfl) ?_
      refine lv_bipush (v := 10) hx hb d_N_users_7 (by decide) ?_
      refine lv_icmp_ge (tgt := 42) hx hb d_N_users_9 (by decide) (fun c6 => ?_) (fun c6 => ?_)
      · have hf := rd_t hf c6
        exact hk_5 _ _ _ _ _ hf hW (lv_sub hl [0, 1, 2, 3, 4] rfl)
      · have hf := rd_f hf c6
        refine lv_aload_n hx hb d_N_users_12 rfl (lv_at hl 2 rfl) ?_
        refine gf_N_owner C9 hW l_N_40 d_N_users_13 ?_
        refine lv_iload hx hb d_N_users_16 (lv_at hl 0 rfl) ?_
        obtain ⟨g7, hf⟩ := rd_g hf
        refine al_m_owner C9 hW rfl g7 d_N_users_18 ?_
        refine lv_if_lt (tgt := 36) hx hb d_N_users_19 (by decide) (fun c8 => ?_) (fun c8 => ?_)
        · have hf := rd_t hf c8
          refine lv_iinc (v := v5_4 + 1) (lv' := [(4, .int (v5_4 + 1)), (3, .int v5_3), (0, .ref (ad 0)), (1, .int p1), (2, .int p2)]) hx hb d_N_users_36 hl (k := 0) rfl rfl (by decide) rfl (fun ls hl => ?_)
          refine lv_goto (tgt := 5) hx hb d_N_users_39 (by decide) ?_
          exact ih_5 _ _ _ _ _ hf hW (lv_sub hl [0, 1, 2, 3, 4] rfl)
        · have hf := rd_f hf c8
          refine lv_aload_n hx hb d_N_users_22 rfl (lv_at hl 2 rfl) ?_
          refine lv_iload hx hb d_N_users_23 (lv_at hl 0 rfl) ?_
          refine lv_iload_n hx hb d_N_users_25 rfl (lv_at hl 3 rfl) ?_
          refine lv_iload_n hx hb d_N_users_26 rfl (lv_at hl 4 rfl) ?_
          obtain ⟨r9, qr9, hf⟩ := rd_bind hf
          refine rd_callV (As := [.int v5_4, .int p1, .int p2]) (rest := []) rd_gd C9 hTh hW (c_N_placeOf hls v5_4 p1 p2 qr9) kc_N_placeOf ki_N_placeOf ks_N_placeOf l_N_105 rfl (lt_N) (ce_N) rfl ⟨Nat.le_of_ble_eq_true rfl, Nat.le_of_ble_eq_true rfl⟩ ⟨Nat.le_of_ble_eq_true rfl, Nat.le_of_ble_eq_true rfl⟩ hl.1 rfl (Nat.le_of_ble_eq_true rfl) d_N_users_27 (fun E _ _ _ _ hex => hex.elim) (fun rr MM H locs hp hW => ?_)
          obtain ⟨rfl, rfl⟩ := hp
          refine lv_if_lt (tgt := 36) hx hb d_N_users_30 (by decide) (fun c10 => ?_) (fun c10 => ?_)
          · have hf := rd_t hf c10
            refine lv_iinc (v := v5_4 + 1) (lv' := [(4, .int (v5_4 + 1)), (3, .int v5_3), (0, .ref (ad 0)), (1, .int p1), (2, .int p2)]) hx hb d_N_users_36 hl (k := 0) rfl rfl (by decide) rfl (fun ls hl => ?_)
            refine lv_goto (tgt := 5) hx hb d_N_users_39 (by decide) ?_
            exact ih_5 _ _ _ _ _ hf hW (lv_sub hl [0, 1, 2, 3, 4] rfl)
          · have hf := rd_f hf c10
            refine lv_iinc (v := v5_3 + 1) (lv' := [(3, .int (v5_3 + 1)), (4, .int v5_4), (0, .ref (ad 0)), (1, .int p1), (2, .int p2)]) hx hb d_N_users_33 hl (k := 1) rfl rfl (by decide) rfl (fun ls hl => ?_)
            refine lv_iinc (v := v5_4 + 1) (lv' := [(4, .int (v5_4 + 1)), (3, .int (v5_3 + 1)), (0, .ref (ad 0)), (1, .int p1), (2, .int p2)]) hx hb d_N_users_36 hl (k := 1) rfl rfl (by decide) rfl (fun ls hl => ?_)
            refine lv_goto (tgt := 5) hx hb d_N_users_39 (by decide) ?_
            exact ih_5 _ _ _ _ _ hf hW (lv_sub hl [0, 1, 2, 3, 4] rfl)
  refine loop_5 _ ?_ 64 _ _ _ _ _ hf hW (lv_sub hl [0, 1, 2, 3, 4] rfl)
  intro w5_4 w5_3 H locs ls hf hW hl
  refine lv_iload_n hx hb d_N_users_42 rfl (lv_at hl 1 rfl) ?_
  obtain rfl := Option.some.inj hf
  exact rd_iret C9 hlk hret hW ⟨rfl, rfl⟩ (by decide) (by decide) d_N_users_43
def lb_N_takeOff_27 (q4 : Int32) (q1 : Int32) (q2 : Int32) (q3 : Int32) (Kf : Int32 → rd_M → Option (rd_M)) (rec : Int32 → rd_M → Option (rd_M)) (v27_5 : Int32) (v27_M : rd_M) : Option (rd_M) :=
  if rd_in ((2 * q1) + q2) 20 then
  if ((v27_M 19).1 (((2 * q1) + q2).toNatClampNeg)) ≤ v27_5 then
    Kf v27_5 v27_M
  else
    if rd_in ((q4 + v27_5) + 1) 60 then
    if rd_in (q4 + v27_5) 60 then
    rd_k (rd_iU v27_M 18 ((q4 + v27_5).toNatClampNeg) ((v27_M 18).1 (((q4 + v27_5) + 1).toNatClampNeg))) fun M8 =>
    rec (v27_5 + 1) M8
    else none
    else none
  else none
def f_N_takeOff (M : rd_M) (p1 : Int32) (p2 : Int32) (p3 : Int32) : Option (rd_M) :=
  if rd_in ((2 * p1) + p2) 20 then
  if rd_in ((2 * p1) + p2) 20 then
  rd_k (rd_iU M 19 (((2 * p1) + p2).toNatClampNeg) (((M 19).1 (((2 * p1) + p2).toNatClampNeg)) - 1)) fun M3 =>
  rd_it (fun _ _ => none) (lb_N_takeOff_27 ((6 * p1) + (3 * p2)) p1 p2 p3 (fun w27_5 w27_M =>
    some w27_M)) 64 p3 M3
  else none
  else none
set_option maxRecDepth 100000 in
set_option maxHeartbeats 4000000 in
theorem c_N_takeOff {l : Launch} (hls : l.stackTraces = false) {D : va_G} {Ka : Nat → ClassId} {ad : Nat → Nat} {M : rd_M} (p1 : Int32) (p2 : Int32) (p3 : Int32)  {o : rd_M} (hf : f_N_takeOff M p1 p2 p3 = some o) :
    rd_Met l y_N_takeOff b_N_takeOff 6 none (0, 0, 0, 0) rd_T rd_ss D rd_cl (rd_ty Ka) (rm_L Ka) ad M [.ref (ad 0), .int p1, .int p2, .int p3] (fun r M1 => r = none ∧ o = M1) (fun _ => False) := by
  refine rd_body (by decide) (Nat.le_of_ble_eq_true rfl) ?_
  intro p e s m below meth c C9 hlk hret hnt hTh hW ls hl
  have hx := C9.1.1
  have hb := C9.1.2.1
  have hl : lv_has ls 6 [(0, .ref (ad 0)), (1, .int p1), (2, .int p2), (3, .int p3)] := hl
  unfold f_N_takeOff at hf
  refine lv_aload_n hx hb d_N_takeOff_0 rfl (lv_at hl 0 rfl) ?_
  refine gf_N_uses C9 hW l_N_67 d_N_takeOff_1 ?_
  refine lv_iconst (v := 2) hx hb d_N_takeOff_4 (by decide) ?_
  refine lv_iload_n hx hb d_N_takeOff_5 rfl (lv_at hl 1 rfl) ?_
  refine lv_imul hx hb d_N_takeOff_6 ?_
  refine lv_iload_n hx hb d_N_takeOff_7 rfl (lv_at hl 2 rfl) ?_
  refine lv_iadd hx hb d_N_takeOff_8 ?_
  refine lv_dup2_11 hx hb d_N_takeOff_9 rfl rfl ?_
  obtain ⟨g1, hf⟩ := rd_g hf
  refine al_m_uses C9 hW rfl g1 d_N_takeOff_10 ?_
  refine lv_iconst (v := 1) hx hb d_N_takeOff_11 (by decide) ?_
  refine lv_isub hx hb d_N_takeOff_12 ?_
  obtain ⟨g2, hf⟩ := rd_g hf
  refine as_m_uses C9 hW rfl g2 d_N_takeOff_13 (fun H locs hW => ?_)
  obtain ⟨M3, hM3, hf⟩ := rd_k_el hf
  rw [← hM3] at hW
  refine lv_bipush (v := 6) hx hb d_N_takeOff_14 (by decide) ?_
  refine lv_iload_n hx hb d_N_takeOff_16 rfl (lv_at hl 1 rfl) ?_
  refine lv_imul hx hb d_N_takeOff_17 ?_
  refine lv_iconst (v := 3) hx hb d_N_takeOff_18 (by decide) ?_
  refine lv_iload_n hx hb d_N_takeOff_19 rfl (lv_at hl 2 rfl) ?_
  refine lv_imul hx hb d_N_takeOff_20 ?_
  refine lv_iadd hx hb d_N_takeOff_21 ?_
  refine lv_istore (lv' := [(4, .int ((6 * p1) + (3 * p2))), (0, .ref (ad 0)), (1, .int p1), (2, .int p2), (3, .int p3)]) hx hb d_N_takeOff_22 hl (by decide) rfl (fun ls hl => ?_)
  refine lv_iload_n hx hb d_N_takeOff_24 rfl (lv_at hl 4 rfl) ?_
  refine lv_istore (lv' := [(5, .int p3), (4, .int ((6 * p1) + (3 * p2))), (0, .ref (ad 0)), (1, .int p1), (2, .int p2), (3, .int p3)]) hx hb d_N_takeOff_25 hl (by decide) rfl (fun ls hl => ?_)
  have loop_27 : ∀ (Kf : Int32 → rd_M → Option (rd_M)) (hk_27 : ∀ (w27_5 : Int32) (w27_M : rd_M) (H : Heap) (locs : List Loc) (ls : Array Slot), Kf w27_5 w27_M = some o → rd_W D rd_cl (rm_L Ka) ad (rd_A (rm_L Ka) ad s.heap.size) s.heap w27_M H locs → lv_has ls 6 [(5, .int w27_5), (4, .int ((6 * p1) + (3 * p2))), (0, .ref (ad 0)), (1, .int p1), (2, .int p2), (3, .int p3)] → W p l e { frames := 0, cells := 0, slots := 0, locals := 0 } s m [.ref (ad 0), .int p1, .int p2, .int p3].toArray below meth c H locs 0 0 (rd_Z below (rd_O D rd_cl (rm_L Ka) ad M (rd_A (rm_L Ka) ad s.heap.size) 0 0 (fun r M1 => r = none ∧ o = M1) (fun _ => False)) s) (F0 m 70 ls [])) (fu : Nat) (v27_5 : Int32) (v27_M : rd_M) (H : Heap) (locs : List Loc) (ls : Array Slot), rd_it (fun _ _ => none) (lb_N_takeOff_27 ((6 * p1) + (3 * p2)) p1 p2 p3 Kf) fu v27_5 v27_M = some o → rd_W D rd_cl (rm_L Ka) ad (rd_A (rm_L Ka) ad s.heap.size) s.heap v27_M H locs → lv_has ls 6 [(5, .int v27_5), (4, .int ((6 * p1) + (3 * p2))), (0, .ref (ad 0)), (1, .int p1), (2, .int p2), (3, .int p3)] → W p l e { frames := 0, cells := 0, slots := 0, locals := 0 } s m [.ref (ad 0), .int p1, .int p2, .int p3].toArray below meth c H locs 0 0 (rd_Z below (rd_O D rd_cl (rm_L Ka) ad M (rd_A (rm_L Ka) ad s.heap.size) 0 0 (fun r M1 => r = none ∧ o = M1) (fun _ => False)) s) (F0 m 27 ls []) := by
    intro Kf hk_27 fu
    induction fu with
    | zero => intro _ _ H locs ls hf; exact (rd_nf hf).elim
    | succ fu ih_27 =>
      intro v27_5 v27_M H locs ls hf hW hl
      rw [rd_it_s] at hf
      unfold lb_N_takeOff_27 at hf
      refine lv_iload hx hb d_N_takeOff_27 (lv_at hl 0 rfl) ?_
      refine lv_aload_n hx hb d_N_takeOff_29 rfl (lv_at hl 2 rfl) ?_
      refine gf_N_uses C9 hW l_N_67 d_N_takeOff_30 ?_
      refine lv_iconst (v := 2) hx hb d_N_takeOff_33 (by decide) ?_
      refine lv_iload_n hx hb d_N_takeOff_34 rfl (lv_at hl 3 rfl) ?_
      refine lv_imul hx hb d_N_takeOff_35 ?_
      refine lv_iload_n hx hb d_N_takeOff_36 rfl (lv_at hl 4 rfl) ?_
      refine lv_iadd hx hb d_N_takeOff_37 ?_
      obtain ⟨g9, hf⟩ := rd_g hf
      refine al_m_uses C9 hW rfl g9 d_N_takeOff_38 ?_
      refine lv_icmp_ge (tgt := 70) hx hb d_N_takeOff_39 (by decide) (fun c10 => ?_) (fun c10 => ?_)
      · have hf := rd_t hf c10
        exact hk_27 _ _ _ _ _ hf hW (lv_sub hl [0, 1, 2, 3, 4, 5] rfl)
      · have hf := rd_f hf c10
        refine lv_aload_n hx hb d_N_takeOff_42 rfl (lv_at hl 2 rfl) ?_
        refine gf_N_used C9 hW l_N_64 d_N_takeOff_43 ?_
        refine lv_iload hx hb d_N_takeOff_46 (lv_at hl 1 rfl) ?_
        refine lv_iload hx hb d_N_takeOff_48 (lv_at hl 0 rfl) ?_
        refine lv_iadd hx hb d_N_takeOff_50 ?_
        refine lv_aload_n hx hb d_N_takeOff_51 rfl (lv_at hl 2 rfl) ?_
        refine gf_N_used C9 hW l_N_64 d_N_takeOff_52 ?_
        refine lv_iload hx hb d_N_takeOff_55 (lv_at hl 1 rfl) ?_
        refine lv_iload hx hb d_N_takeOff_57 (lv_at hl 0 rfl) ?_
        refine lv_iadd hx hb d_N_takeOff_59 ?_
        refine lv_iconst (v := 1) hx hb d_N_takeOff_60 (by decide) ?_
        refine lv_iadd hx hb d_N_takeOff_61 ?_
        obtain ⟨g11, hf⟩ := rd_g hf
        refine al_m_used C9 hW rfl g11 d_N_takeOff_62 ?_
        obtain ⟨g12, hf⟩ := rd_g hf
        refine as_m_used C9 hW rfl g12 d_N_takeOff_63 (fun H locs hW => ?_)
        obtain ⟨M13, hM13, hf⟩ := rd_k_el hf
        rw [← hM13] at hW
        refine lv_iinc (v := v27_5 + 1) (lv' := [(5, .int (v27_5 + 1)), (4, .int ((6 * p1) + (3 * p2))), (0, .ref (ad 0)), (1, .int p1), (2, .int p2), (3, .int p3)]) hx hb d_N_takeOff_64 hl (k := 0) rfl rfl (by decide) rfl (fun ls hl => ?_)
        refine lv_goto (tgt := 27) hx hb d_N_takeOff_67 (by decide) ?_
        exact ih_27 _ _ _ _ _ hf hW (lv_sub hl [0, 1, 2, 3, 4, 5] rfl)
  refine loop_27 _ ?_ 64 _ _ _ _ _ hf hW (lv_sub hl [0, 1, 2, 3, 4, 5] rfl)
  intro w27_5 w27_M H locs ls hf hW hl
  obtain rfl := Option.some.inj hf
  exact rd_vret C9 hlk hret hW ⟨rfl, rfl⟩ (by decide) (by decide) d_N_takeOff_70
def lb_N_removeHost_9 (q1 : Int32) (Kf : Int32 → rd_M → Option (rd_M)) (rec : Int32 → rd_M → Option (rd_M)) (v9_2 : Int32) (v9_M : rd_M) : Option (rd_M) :=
  if 10 ≤ v9_2 then
    Kf v9_2 v9_M
  else
    (f_N_placeOf v9_M v9_2 1 q1).bind fun r4 =>
    if rd_in v9_2 10 then
    if ((v9_M 10).1 v9_2.toNatClampNeg) < 0 then
      rec (v9_2 + 1) v9_M
    else
      if r4 < 0 then
        rec (v9_2 + 1) v9_M
      else
        (f_N_takeOff v9_M v9_2 1 r4).bind fun r8 =>
        rec (v9_2 + 1) r8
    else none
def f_N_removeHost (M : rd_M) (p1 : Int32) : Option (rd_M) :=
  if rd_in p1 8 then
  rd_k (rd_iU M 7 p1.toNatClampNeg (-1)) fun M2 =>
  rd_it (fun _ _ => none) (lb_N_removeHost_9 p1 (fun w9_2 w9_M =>
    some w9_M)) 64 0 M2
  else none
set_option maxRecDepth 100000 in
set_option maxHeartbeats 4000000 in
theorem c_N_removeHost {l : Launch} (hls : l.stackTraces = false) {D : va_G} {Ka : Nat → ClassId} {ad : Nat → Nat} {M : rd_M} (p1 : Int32)  {o : rd_M} (hf : f_N_removeHost M p1 = some o) :
    rd_Met l y_N_removeHost b_N_removeHost 4 none (1, 25, 0, 0) rd_T rd_ss D rd_cl (rd_ty Ka) (rm_L Ka) ad M [.ref (ad 0), .int p1] (fun r M1 => r = none ∧ o = M1) (fun _ => False) := by
  refine rd_body (by decide) (Nat.le_of_ble_eq_true rfl) ?_
  intro p e s m below meth c C9 hlk hret hnt hTh hW ls hl
  have hx := C9.1.1
  have hb := C9.1.2.1
  have hl : lv_has ls 4 [(0, .ref (ad 0)), (1, .int p1)] := hl
  unfold f_N_removeHost at hf
  refine lv_aload_n hx hb d_N_removeHost_0 rfl (lv_at hl 0 rfl) ?_
  refine gf_N_hostOwner C9 hW l_N_31 d_N_removeHost_1 ?_
  refine lv_iload_n hx hb d_N_removeHost_4 rfl (lv_at hl 1 rfl) ?_
  refine lv_iconst (v := (-1)) hx hb d_N_removeHost_5 (by decide) ?_
  obtain ⟨g1, hf⟩ := rd_g hf
  refine as_m_hostOwner C9 hW rfl g1 d_N_removeHost_6 (fun H locs hW => ?_)
  obtain ⟨M2, hM2, hf⟩ := rd_k_el hf
  rw [← hM2] at hW
  refine lv_iconst (v := 0) hx hb d_N_removeHost_7 (by decide) ?_
  refine lv_istore_n (lv' := [(2, .int 0), (0, .ref (ad 0)), (1, .int p1)]) hx hb d_N_removeHost_8 rfl hl (by decide) rfl (fun ls hl => ?_)
  have loop_9 : ∀ (Kf : Int32 → rd_M → Option (rd_M)) (hk_9 : ∀ (w9_2 : Int32) (w9_M : rd_M) (H : Heap) (locs : List Loc) (ls : Array Slot), Kf w9_2 w9_M = some o → rd_W D rd_cl (rm_L Ka) ad (rd_A (rm_L Ka) ad s.heap.size) s.heap w9_M H locs → lv_has ls 4 [(2, .int w9_2), (0, .ref (ad 0)), (1, .int p1)] → W p l e { frames := 1, cells := 0, slots := 0, locals := 25 } s m [.ref (ad 0), .int p1].toArray below meth c H locs 0 0 (rd_Z below (rd_O D rd_cl (rm_L Ka) ad M (rd_A (rm_L Ka) ad s.heap.size) 0 0 (fun r M1 => r = none ∧ o = M1) (fun _ => False)) s) (F0 m 49 ls [])) (fu : Nat) (v9_2 : Int32) (v9_M : rd_M) (H : Heap) (locs : List Loc) (ls : Array Slot), rd_it (fun _ _ => none) (lb_N_removeHost_9 p1 Kf) fu v9_2 v9_M = some o → rd_W D rd_cl (rm_L Ka) ad (rd_A (rm_L Ka) ad s.heap.size) s.heap v9_M H locs → lv_has ls 4 [(2, .int v9_2), (0, .ref (ad 0)), (1, .int p1)] → W p l e { frames := 1, cells := 0, slots := 0, locals := 25 } s m [.ref (ad 0), .int p1].toArray below meth c H locs 0 0 (rd_Z below (rd_O D rd_cl (rm_L Ka) ad M (rd_A (rm_L Ka) ad s.heap.size) 0 0 (fun r M1 => r = none ∧ o = M1) (fun _ => False)) s) (F0 m 9 ls []) := by
    intro Kf hk_9 fu
    induction fu with
    | zero => intro _ _ H locs ls hf; exact (rd_nf hf).elim
    | succ fu ih_9 =>
      intro v9_2 v9_M H locs ls hf hW hl
      rw [rd_it_s] at hf
      unfold lb_N_removeHost_9 at hf
      refine lv_iload_n hx hb d_N_removeHost_9 rfl (lv_at hl 0 rfl) ?_
      refine lv_bipush (v := 10) hx hb d_N_removeHost_10 (by decide) ?_
      refine lv_icmp_ge (tgt := 49) hx hb d_N_removeHost_12 (by decide) (fun c9 => ?_) (fun c9 => ?_)
      · have hf := rd_t hf c9
        exact hk_9 _ _ _ _ _ hf hW (lv_sub hl [0, 1, 2] rfl)
      · have hf := rd_f hf c9
        refine lv_aload_n hx hb d_N_removeHost_15 rfl (lv_at hl 1 rfl) ?_
        refine lv_iload_n hx hb d_N_removeHost_16 rfl (lv_at hl 0 rfl) ?_
        refine lv_iconst (v := 1) hx hb d_N_removeHost_17 (by decide) ?_
        refine lv_iload_n hx hb d_N_removeHost_18 rfl (lv_at hl 2 rfl) ?_
        obtain ⟨r10, qr10, hf⟩ := rd_bind hf
        refine rd_callV (As := [.int v9_2, .int 1, .int p1]) (rest := []) rd_gd C9 hTh hW (c_N_placeOf hls v9_2 1 p1 qr10) kc_N_placeOf ki_N_placeOf ks_N_placeOf l_N_105 rfl (lt_N) (ce_N) rfl ⟨Nat.le_of_ble_eq_true rfl, Nat.le_of_ble_eq_true rfl⟩ ⟨Nat.le_of_ble_eq_true rfl, Nat.le_of_ble_eq_true rfl⟩ hl.1 rfl (Nat.le_of_ble_eq_true rfl) d_N_removeHost_19 (fun E _ _ _ _ hex => hex.elim) (fun rr MM H locs hp hW => ?_)
        obtain ⟨rfl, rfl⟩ := hp
        refine lv_istore_n (lv' := [(3, .int r10), (2, .int v9_2), (0, .ref (ad 0)), (1, .int p1)]) hx hb d_N_removeHost_22 rfl hl (by decide) rfl (fun ls hl => ?_)
        refine lv_aload_n hx hb d_N_removeHost_23 rfl (lv_at hl 2 rfl) ?_
        refine gf_N_owner C9 hW l_N_40 d_N_removeHost_24 ?_
        refine lv_iload_n hx hb d_N_removeHost_27 rfl (lv_at hl 1 rfl) ?_
        obtain ⟨g11, hf⟩ := rd_g hf
        refine al_m_owner C9 hW rfl g11 d_N_removeHost_28 ?_
        refine lv_if_lt (tgt := 43) hx hb d_N_removeHost_29 (by decide) (fun c12 => ?_) (fun c12 => ?_)
        · have hf := rd_t hf c12
          refine lv_iinc (v := v9_2 + 1) (lv' := [(2, .int (v9_2 + 1)), (3, .int r10), (0, .ref (ad 0)), (1, .int p1)]) hx hb d_N_removeHost_43 hl (k := 1) rfl rfl (by decide) rfl (fun ls hl => ?_)
          refine lv_goto (tgt := 9) hx hb d_N_removeHost_46 (by decide) ?_
          exact ih_9 _ _ _ _ _ hf hW (lv_sub hl [0, 2, 3] rfl)
        · have hf := rd_f hf c12
          refine lv_iload_n hx hb d_N_removeHost_32 rfl (lv_at hl 0 rfl) ?_
          refine lv_if_lt (tgt := 43) hx hb d_N_removeHost_33 (by decide) (fun c13 => ?_) (fun c13 => ?_)
          · have hf := rd_t hf c13
            refine lv_iinc (v := v9_2 + 1) (lv' := [(2, .int (v9_2 + 1)), (3, .int r10), (0, .ref (ad 0)), (1, .int p1)]) hx hb d_N_removeHost_43 hl (k := 1) rfl rfl (by decide) rfl (fun ls hl => ?_)
            refine lv_goto (tgt := 9) hx hb d_N_removeHost_46 (by decide) ?_
            exact ih_9 _ _ _ _ _ hf hW (lv_sub hl [0, 2, 3] rfl)
          · have hf := rd_f hf c13
            refine lv_aload_n hx hb d_N_removeHost_36 rfl (lv_at hl 2 rfl) ?_
            refine lv_iload_n hx hb d_N_removeHost_37 rfl (lv_at hl 1 rfl) ?_
            refine lv_iconst (v := 1) hx hb d_N_removeHost_38 (by decide) ?_
            refine lv_iload_n hx hb d_N_removeHost_39 rfl (lv_at hl 0 rfl) ?_
            obtain ⟨r14, qr14, hf⟩ := rd_bind hf
            refine rd_callV (As := [.int v9_2, .int 1, .int r10]) (rest := []) rd_gd C9 hTh hW (c_N_takeOff hls v9_2 1 r10 qr14) kc_N_takeOff ki_N_takeOff ks_N_takeOff l_N_109 rfl (lt_N) (ce_N) rfl ⟨Nat.le_of_ble_eq_true rfl, Nat.le_of_ble_eq_true rfl⟩ ⟨Nat.le_of_ble_eq_true rfl, Nat.le_of_ble_eq_true rfl⟩ hl.1 rfl (Nat.le_of_ble_eq_true rfl) d_N_removeHost_40 (fun E _ _ _ _ hex => hex.elim) (fun rr MM H locs hp hW => ?_)
            obtain ⟨rfl, rfl⟩ := hp
            refine lv_iinc (v := v9_2 + 1) (lv' := [(2, .int (v9_2 + 1)), (3, .int r10), (0, .ref (ad 0)), (1, .int p1)]) hx hb d_N_removeHost_43 hl (k := 1) rfl rfl (by decide) rfl (fun ls hl => ?_)
            refine lv_goto (tgt := 9) hx hb d_N_removeHost_46 (by decide) ?_
            exact ih_9 _ _ _ _ _ hf hW (lv_sub hl [0, 2, 3] rfl)
  refine loop_9 _ ?_ 64 _ _ _ _ _ hf hW (lv_sub hl [0, 1, 2] rfl)
  intro w9_2 w9_M H locs ls hf hW hl
  obtain rfl := Option.some.inj hf
  exact rd_vret C9 hlk hret hW ⟨rfl, rfl⟩ (by decide) (by decide) d_N_removeHost_49
def lb_N_removeDomain_2 (q1 : Int32) (Kf : Int32 → rd_M → Option (rd_M)) (rec : Int32 → rd_M → Option (rd_M)) (v2_2 : Int32) (v2_M : rd_M) : Option (rd_M) :=
  if ((v2_M 0).1 9) ≤ v2_2 then
    Kf v2_2 v2_M
  else
    if rd_in v2_2 8 then
    if ((v2_M 7).1 v2_2.toNatClampNeg) < 0 then
      rec (v2_2 + 1) v2_M
    else
      if rd_in v2_2 8 then
      if ((v2_M 9).1 v2_2.toNatClampNeg) = q1 then
        (f_N_removeHost v2_M v2_2).bind fun r6 =>
        rec (v2_2 + 1) r6
      else
        rec (v2_2 + 1) v2_M
      else none
    else none
def f_N_removeDomain (M : rd_M) (p1 : Int32) : Option (rd_M) :=
  rd_it (fun _ _ => none) (lb_N_removeDomain_2 p1 (fun w2_2 w2_M =>
    if rd_in p1 10 then
    rd_k (rd_iU w2_M 10 p1.toNatClampNeg (-1)) fun M8 =>
    some M8
    else none)) 64 0 M
set_option maxRecDepth 100000 in
set_option maxHeartbeats 4000000 in
theorem c_N_removeDomain {l : Launch} (hls : l.stackTraces = false) {D : va_G} {Ka : Nat → ClassId} {ad : Nat → Nat} {M : rd_M} (p1 : Int32)  {o : rd_M} (hf : f_N_removeDomain M p1 = some o) :
    rd_Met l y_N_removeDomain b_N_removeDomain 3 none (2, 48, 0, 0) rd_T rd_ss D rd_cl (rd_ty Ka) (rm_L Ka) ad M [.ref (ad 0), .int p1] (fun r M1 => r = none ∧ o = M1) (fun _ => False) := by
  refine rd_body (by decide) (Nat.le_of_ble_eq_true rfl) ?_
  intro p e s m below meth c C9 hlk hret hnt hTh hW ls hl
  have hx := C9.1.1
  have hb := C9.1.2.1
  have hl : lv_has ls 3 [(0, .ref (ad 0)), (1, .int p1)] := hl
  unfold f_N_removeDomain at hf
  refine lv_iconst (v := 0) hx hb d_N_removeDomain_0 (by decide) ?_
  refine lv_istore_n (lv' := [(2, .int 0), (0, .ref (ad 0)), (1, .int p1)]) hx hb d_N_removeDomain_1 rfl hl (by decide) rfl (fun ls hl => ?_)
  have loop_2 : ∀ (Kf : Int32 → rd_M → Option (rd_M)) (hk_2 : ∀ (w2_2 : Int32) (w2_M : rd_M) (H : Heap) (locs : List Loc) (ls : Array Slot), Kf w2_2 w2_M = some o → rd_W D rd_cl (rm_L Ka) ad (rd_A (rm_L Ka) ad s.heap.size) s.heap w2_M H locs → lv_has ls 3 [(2, .int w2_2), (0, .ref (ad 0)), (1, .int p1)] → W p l e { frames := 2, cells := 0, slots := 0, locals := 48 } s m [.ref (ad 0), .int p1].toArray below meth c H locs 0 0 (rd_Z below (rd_O D rd_cl (rm_L Ka) ad M (rd_A (rm_L Ka) ad s.heap.size) 0 0 (fun r M1 => r = none ∧ o = M1) (fun _ => False)) s) (F0 m 40 ls [])) (fu : Nat) (v2_2 : Int32) (v2_M : rd_M) (H : Heap) (locs : List Loc) (ls : Array Slot), rd_it (fun _ _ => none) (lb_N_removeDomain_2 p1 Kf) fu v2_2 v2_M = some o → rd_W D rd_cl (rm_L Ka) ad (rd_A (rm_L Ka) ad s.heap.size) s.heap v2_M H locs → lv_has ls 3 [(2, .int v2_2), (0, .ref (ad 0)), (1, .int p1)] → W p l e { frames := 2, cells := 0, slots := 0, locals := 48 } s m [.ref (ad 0), .int p1].toArray below meth c H locs 0 0 (rd_Z below (rd_O D rd_cl (rm_L Ka) ad M (rd_A (rm_L Ka) ad s.heap.size) 0 0 (fun r M1 => r = none ∧ o = M1) (fun _ => False)) s) (F0 m 2 ls []) := by
    intro Kf hk_2 fu
    induction fu with
    | zero => intro _ _ H locs ls hf; exact (rd_nf hf).elim
    | succ fu ih_2 =>
      intro v2_2 v2_M H locs ls hf hW hl
      rw [rd_it_s] at hf
      unfold lb_N_removeDomain_2 at hf
      refine lv_iload_n hx hb d_N_removeDomain_2 rfl (lv_at hl 0 rfl) ?_
      refine lv_aload_n hx hb d_N_removeDomain_3 rfl (lv_at hl 1 rfl) ?_
      refine gf_N_hosts C9 hW l_N_85 d_N_removeDomain_4 ?_
      refine lv_icmp_ge (tgt := 40) hx hb d_N_removeDomain_7 (by decide) (fun c9 => ?_) (fun c9 => ?_)
      · have hf := rd_t hf c9
        exact hk_2 _ _ _ _ _ hf hW (lv_sub hl [0, 1, 2] rfl)
      · have hf := rd_f hf c9
        refine lv_aload_n hx hb d_N_removeDomain_10 rfl (lv_at hl 1 rfl) ?_
        refine gf_N_hostOwner C9 hW l_N_31 d_N_removeDomain_11 ?_
        refine lv_iload_n hx hb d_N_removeDomain_14 rfl (lv_at hl 0 rfl) ?_
        obtain ⟨g10, hf⟩ := rd_g hf
        refine al_m_hostOwner C9 hW rfl g10 d_N_removeDomain_15 ?_
        refine lv_if_lt (tgt := 34) hx hb d_N_removeDomain_16 (by decide) (fun c11 => ?_) (fun c11 => ?_)
        · have hf := rd_t hf c11
          refine lv_iinc (v := v2_2 + 1) (lv' := [(2, .int (v2_2 + 1)), (0, .ref (ad 0)), (1, .int p1)]) hx hb d_N_removeDomain_34 hl (k := 0) rfl rfl (by decide) rfl (fun ls hl => ?_)
          refine lv_goto (tgt := 2) hx hb d_N_removeDomain_37 (by decide) ?_
          exact ih_2 _ _ _ _ _ hf hW (lv_sub hl [0, 1, 2] rfl)
        · have hf := rd_f hf c11
          refine lv_aload_n hx hb d_N_removeDomain_19 rfl (lv_at hl 1 rfl) ?_
          refine gf_N_under C9 hW l_N_37 d_N_removeDomain_20 ?_
          refine lv_iload_n hx hb d_N_removeDomain_23 rfl (lv_at hl 0 rfl) ?_
          obtain ⟨g12, hf⟩ := rd_g hf
          refine al_m_under C9 hW rfl g12 d_N_removeDomain_24 ?_
          refine lv_iload_n hx hb d_N_removeDomain_25 rfl (lv_at hl 2 rfl) ?_
          refine lv_icmp_ne (tgt := 34) hx hb d_N_removeDomain_26 (by decide) (fun c13 => ?_) (fun c13 => ?_)
          · have hf := rd_f hf c13
            refine lv_iinc (v := v2_2 + 1) (lv' := [(2, .int (v2_2 + 1)), (0, .ref (ad 0)), (1, .int p1)]) hx hb d_N_removeDomain_34 hl (k := 0) rfl rfl (by decide) rfl (fun ls hl => ?_)
            refine lv_goto (tgt := 2) hx hb d_N_removeDomain_37 (by decide) ?_
            exact ih_2 _ _ _ _ _ hf hW (lv_sub hl [0, 1, 2] rfl)
          · have hf := rd_t hf c13
            refine lv_aload_n hx hb d_N_removeDomain_29 rfl (lv_at hl 1 rfl) ?_
            refine lv_iload_n hx hb d_N_removeDomain_30 rfl (lv_at hl 0 rfl) ?_
            obtain ⟨r14, qr14, hf⟩ := rd_bind hf
            refine rd_callV (As := [.int v2_2]) (rest := []) rd_gd C9 hTh hW (c_N_removeHost hls v2_2 qr14) kc_N_removeHost ki_N_removeHost ks_N_removeHost l_N_113 rfl (lt_N) (ce_N) rfl ⟨Nat.le_of_ble_eq_true rfl, Nat.le_of_ble_eq_true rfl⟩ ⟨Nat.le_of_ble_eq_true rfl, Nat.le_of_ble_eq_true rfl⟩ hl.1 rfl (Nat.le_of_ble_eq_true rfl) d_N_removeDomain_31 (fun E _ _ _ _ hex => hex.elim) (fun rr MM H locs hp hW => ?_)
            obtain ⟨rfl, rfl⟩ := hp
            refine lv_iinc (v := v2_2 + 1) (lv' := [(2, .int (v2_2 + 1)), (0, .ref (ad 0)), (1, .int p1)]) hx hb d_N_removeDomain_34 hl (k := 0) rfl rfl (by decide) rfl (fun ls hl => ?_)
            refine lv_goto (tgt := 2) hx hb d_N_removeDomain_37 (by decide) ?_
            exact ih_2 _ _ _ _ _ hf hW (lv_sub hl [0, 1, 2] rfl)
  refine loop_2 _ ?_ 64 _ _ _ _ _ hf hW (lv_sub hl [0, 1, 2] rfl)
  intro w2_2 w2_M H locs ls hf hW hl
  refine lv_aload_n hx hb d_N_removeDomain_40 rfl (lv_at hl 1 rfl) ?_
  refine gf_N_owner C9 hW l_N_40 d_N_removeDomain_41 ?_
  refine lv_iload_n hx hb d_N_removeDomain_44 rfl (lv_at hl 2 rfl) ?_
  refine lv_iconst (v := (-1)) hx hb d_N_removeDomain_45 (by decide) ?_
  obtain ⟨g7, hf⟩ := rd_g hf
  refine as_m_owner C9 hW rfl g7 d_N_removeDomain_46 (fun H locs hW => ?_)
  obtain ⟨M8, hM8, hf⟩ := rd_k_el hf
  rw [← hM8] at hW
  obtain rfl := Option.some.inj hf
  exact rd_vret C9 hlk hret hW ⟨rfl, rfl⟩ (by decide) (by decide) d_N_removeDomain_47
def f_N_price (M : rd_M) (p1 : Int32) (p2 : UInt64) : Option (Int32 × rd_M) :=
  (f_N_in M p1 0 3).bind fun r1 =>
  if r1 = 0 then
    (f_N_fail M 1).bind fun r3 =>
    some (r3.1, r3.2)
  else
    if (Op.cmpValue (FP.dcmp p2 FP.dconst0) .l) < 0 then
      (f_N_fail M 1).bind fun r5 =>
      some (r5.1, r5.2)
    else
      if (Op.cmpValue (FP.dcmp p2 4652007308841189376) .g) ≤ 0 then
        if rd_nn (FP.dmul p2 4634204016564240384) then
        if rd_in p1 4 then
        rd_k (rd_lU M 1 p1.toNatClampNeg (FP.d2l (FP.dmul p2 4634204016564240384))) fun M8 =>
        (f_N_give M8 0).bind fun r9 =>
        some (r9.1, r9.2)
        else none
        else none
      else
        (f_N_fail M 1).bind fun r10 =>
        some (r10.1, r10.2)
set_option maxRecDepth 100000 in
set_option maxHeartbeats 4000000 in
theorem c_N_price {l : Launch} (hls : l.stackTraces = false) {D : va_G} {Ka : Nat → ClassId} {ad : Nat → Nat} {M : rd_M} (p1 : Int32) (p2 : UInt64)  {o : Int32 × rd_M} (hf : f_N_price M p1 p2 = some o) :
    rd_Met l y_N_price b_N_price 4 (some .int) (1, 22, 0, 0) rd_T rd_ss D rd_cl (rd_ty Ka) (rm_L Ka) ad M [.ref (ad 0), .int p1, .double p2] (fun r M1 => r = some (.int o.1) ∧ o.2 = M1) (fun _ => False) := by
  refine rd_body (by decide) (Nat.le_of_ble_eq_true rfl) ?_
  intro p e s m below meth c C9 hlk hret hnt hTh hW ls hl
  have hx := C9.1.1
  have hb := C9.1.2.1
  have hl : lv_has ls 4 [(0, .ref (ad 0)), (1, .int p1), (2, .double p2)] := hl
  unfold f_N_price at hf
  refine lv_iload_n hx hb d_N_price_0 rfl (lv_at hl 1 rfl) ?_
  refine lv_iconst (v := 0) hx hb d_N_price_1 (by decide) ?_
  refine lv_iconst (v := 3) hx hb d_N_price_2 (by decide) ?_
  obtain ⟨r1, qr1, hf⟩ := rd_bind hf
  refine rd_callS (As := [.int p1, .int 0, .int 3]) (rest := []) rd_gd C9 hTh hW (c_N_in hls p1 0 3 qr1) kc_N_in ki_N_in l_N_116 rfl ⟨Nat.le_of_ble_eq_true rfl, Nat.le_of_ble_eq_true rfl⟩ ⟨Nat.le_of_ble_eq_true rfl, Nat.le_of_ble_eq_true rfl⟩ hl.1 rfl (Nat.le_of_ble_eq_true rfl) d_N_price_3 (fun E _ _ _ _ hex => hex.elim) (fun rr MM H locs hp hW => ?_)
  obtain ⟨rfl, rfl⟩ := hp
  refine lv_if_eq (tgt := 23) hx hb d_N_price_6 (by decide) (fun c2 => ?_) (fun c2 => ?_)
  · have hf := rd_t hf c2
    refine lv_aload_n hx hb d_N_price_23 rfl (lv_at hl 0 rfl) ?_
    refine lv_iconst (v := 1) hx hb d_N_price_24 (by decide) ?_
    obtain ⟨r3, qr3, hf⟩ := rd_bind hf
    refine rd_callV (As := [.int 1]) (rest := []) rd_gd C9 hTh hW (c_N_fail hls 1 qr3) kc_N_fail ki_N_fail ks_N_fail l_N_122 rfl (lt_N) (ce_N) rfl ⟨Nat.le_of_ble_eq_true rfl, Nat.le_of_ble_eq_true rfl⟩ ⟨Nat.le_of_ble_eq_true rfl, Nat.le_of_ble_eq_true rfl⟩ hl.1 rfl (Nat.le_of_ble_eq_true rfl) d_N_price_25 (fun E _ _ _ _ hex => hex.elim) (fun rr MM H locs hp hW => ?_)
    obtain ⟨rfl, rfl⟩ := hp
    obtain rfl := Option.some.inj hf
    exact rd_iret C9 hlk hret hW ⟨rfl, rfl⟩ (by decide) (by decide) d_N_price_28
  · have hf := rd_f hf c2
    refine lv_dload_n hx hb d_N_price_9 rfl (lv_at hl 2 rfl) ?_
    refine lv_dconst0 hx hb d_N_price_10 ?_
    refine lv_dcmp hx hb d_N_price_11 ?_
    refine lv_if_lt (tgt := 23) hx hb d_N_price_12 (by decide) (fun c4 => ?_) (fun c4 => ?_)
    · have hf := rd_t hf c4
      refine lv_aload_n hx hb d_N_price_23 rfl (lv_at hl 0 rfl) ?_
      refine lv_iconst (v := 1) hx hb d_N_price_24 (by decide) ?_
      obtain ⟨r5, qr5, hf⟩ := rd_bind hf
      refine rd_callV (As := [.int 1]) (rest := []) rd_gd C9 hTh hW (c_N_fail hls 1 qr5) kc_N_fail ki_N_fail ks_N_fail l_N_122 rfl (lt_N) (ce_N) rfl ⟨Nat.le_of_ble_eq_true rfl, Nat.le_of_ble_eq_true rfl⟩ ⟨Nat.le_of_ble_eq_true rfl, Nat.le_of_ble_eq_true rfl⟩ hl.1 rfl (Nat.le_of_ble_eq_true rfl) d_N_price_25 (fun E _ _ _ _ hex => hex.elim) (fun rr MM H locs hp hW => ?_)
      obtain ⟨rfl, rfl⟩ := hp
      obtain rfl := Option.some.inj hf
      exact rd_iret C9 hlk hret hW ⟨rfl, rfl⟩ (by decide) (by decide) d_N_price_28
    · have hf := rd_f hf c4
      refine lv_dload_n hx hb d_N_price_15 rfl (lv_at hl 2 rfl) ?_
      refine rd_ldcD C9 l_N_120 d_N_price_16 ?_
      refine lv_dcmp hx hb d_N_price_19 ?_
      refine lv_if_le (tgt := 29) hx hb d_N_price_20 (by decide) (fun c6 => ?_) (fun c6 => ?_)
      · have hf := rd_t hf c6
        refine lv_aload_n hx hb d_N_price_29 rfl (lv_at hl 0 rfl) ?_
        refine gf_N_price C9 hW l_N_9 d_N_price_30 ?_
        refine lv_iload_n hx hb d_N_price_33 rfl (lv_at hl 1 rfl) ?_
        refine lv_dload_n hx hb d_N_price_34 rfl (lv_at hl 2 rfl) ?_
        refine rd_ldcD C9 l_N_80 d_N_price_35 ?_
        obtain ⟨g_38, hf⟩ := rd_g hf
        refine lv_dmul hx hb d_N_price_38 g_38 ?_
        refine lv_d2l hx hb d_N_price_39 ?_
        obtain ⟨g7, hf⟩ := rd_g hf
        refine as_m_price C9 hW rfl g7 d_N_price_40 (fun H locs hW => ?_)
        obtain ⟨M8, hM8, hf⟩ := rd_k_el hf
        rw [← hM8] at hW
        refine lv_aload_n hx hb d_N_price_41 rfl (lv_at hl 0 rfl) ?_
        refine lv_iconst (v := 0) hx hb d_N_price_42 (by decide) ?_
        obtain ⟨r9, qr9, hf⟩ := rd_bind hf
        refine rd_callV (As := [.int 0]) (rest := []) rd_gd C9 hTh hW (c_N_give hls 0 qr9) kc_N_give ki_N_give ks_N_give l_N_126 rfl (lt_N) (ce_N) rfl ⟨Nat.le_of_ble_eq_true rfl, Nat.le_of_ble_eq_true rfl⟩ ⟨Nat.le_of_ble_eq_true rfl, Nat.le_of_ble_eq_true rfl⟩ hl.1 rfl (Nat.le_of_ble_eq_true rfl) d_N_price_43 (fun E _ _ _ _ hex => hex.elim) (fun rr MM H locs hp hW => ?_)
        obtain ⟨rfl, rfl⟩ := hp
        obtain rfl := Option.some.inj hf
        exact rd_iret C9 hlk hret hW ⟨rfl, rfl⟩ (by decide) (by decide) d_N_price_46
      · have hf := rd_f hf c6
        refine lv_aload_n hx hb d_N_price_23 rfl (lv_at hl 0 rfl) ?_
        refine lv_iconst (v := 1) hx hb d_N_price_24 (by decide) ?_
        obtain ⟨r10, qr10, hf⟩ := rd_bind hf
        refine rd_callV (As := [.int 1]) (rest := []) rd_gd C9 hTh hW (c_N_fail hls 1 qr10) kc_N_fail ki_N_fail ks_N_fail l_N_122 rfl (lt_N) (ce_N) rfl ⟨Nat.le_of_ble_eq_true rfl, Nat.le_of_ble_eq_true rfl⟩ ⟨Nat.le_of_ble_eq_true rfl, Nat.le_of_ble_eq_true rfl⟩ hl.1 rfl (Nat.le_of_ble_eq_true rfl) d_N_price_25 (fun E _ _ _ _ hex => hex.elim) (fun rr MM H locs hp hW => ?_)
        obtain ⟨rfl, rfl⟩ := hp
        obtain rfl := Option.some.inj hf
        exact rd_iret C9 hlk hret hW ⟨rfl, rfl⟩ (by decide) (by decide) d_N_price_28
def f_N_deposit (M : rd_M) (p1 : Int32) (p2 : UInt64) : Option (UInt64 × rd_M) :=
  (f_N_in M p1 0 3).bind fun r1 =>
  if r1 = 0 then
    (f_N_fail M 1).bind fun r3 =>
    some (FP.i2d r3.1, r3.2)
  else
    if (Op.cmpValue (FP.dcmp p2 FP.dconst0) .l) ≤ 0 then
      (f_N_fail M 1).bind fun r5 =>
      some (FP.i2d r5.1, r5.2)
    else
      if (Op.cmpValue (FP.dcmp p2 4652007308841189376) .g) ≤ 0 then
        if rd_in p1 4 then
        if rd_nn (FP.dmul p2 4634204016564240384) then
        if rd_in p1 4 then
        rd_k (rd_lU M 2 p1.toNatClampNeg (((M 2).2.1 p1.toNatClampNeg) + (FP.d2l (FP.dmul p2 4634204016564240384)))) fun M9 =>
        if rd_in p1 4 then
        (f_N_shown M9 ((M9 2).2.1 p1.toNatClampNeg)).bind fun r11 =>
        some (r11.1, r11.2)
        else none
        else none
        else none
        else none
      else
        (f_N_fail M 1).bind fun r12 =>
        some (FP.i2d r12.1, r12.2)
set_option maxRecDepth 100000 in
set_option maxHeartbeats 4000000 in
theorem c_N_deposit {l : Launch} (hls : l.stackTraces = false) {D : va_G} {Ka : Nat → ClassId} {ad : Nat → Nat} {M : rd_M} (p1 : Int32) (p2 : UInt64)  {o : UInt64 × rd_M} (hf : f_N_deposit M p1 p2 = some o) :
    rd_Met l y_N_deposit b_N_deposit 4 (some .double) (1, 22, 0, 0) rd_T rd_ss D rd_cl (rd_ty Ka) (rm_L Ka) ad M [.ref (ad 0), .int p1, .double p2] (fun r M1 => r = some (.double o.1) ∧ o.2 = M1) (fun _ => False) := by
  refine rd_body (by decide) (Nat.le_of_ble_eq_true rfl) ?_
  intro p e s m below meth c C9 hlk hret hnt hTh hW ls hl
  have hx := C9.1.1
  have hb := C9.1.2.1
  have hl : lv_has ls 4 [(0, .ref (ad 0)), (1, .int p1), (2, .double p2)] := hl
  unfold f_N_deposit at hf
  refine lv_iload_n hx hb d_N_deposit_0 rfl (lv_at hl 1 rfl) ?_
  refine lv_iconst (v := 0) hx hb d_N_deposit_1 (by decide) ?_
  refine lv_iconst (v := 3) hx hb d_N_deposit_2 (by decide) ?_
  obtain ⟨r1, qr1, hf⟩ := rd_bind hf
  refine rd_callS (As := [.int p1, .int 0, .int 3]) (rest := []) rd_gd C9 hTh hW (c_N_in hls p1 0 3 qr1) kc_N_in ki_N_in l_N_116 rfl ⟨Nat.le_of_ble_eq_true rfl, Nat.le_of_ble_eq_true rfl⟩ ⟨Nat.le_of_ble_eq_true rfl, Nat.le_of_ble_eq_true rfl⟩ hl.1 rfl (Nat.le_of_ble_eq_true rfl) d_N_deposit_3 (fun E _ _ _ _ hex => hex.elim) (fun rr MM H locs hp hW => ?_)
  obtain ⟨rfl, rfl⟩ := hp
  refine lv_if_eq (tgt := 23) hx hb d_N_deposit_6 (by decide) (fun c2 => ?_) (fun c2 => ?_)
  · have hf := rd_t hf c2
    refine lv_aload_n hx hb d_N_deposit_23 rfl (lv_at hl 0 rfl) ?_
    refine lv_iconst (v := 1) hx hb d_N_deposit_24 (by decide) ?_
    obtain ⟨r3, qr3, hf⟩ := rd_bind hf
    refine rd_callV (As := [.int 1]) (rest := []) rd_gd C9 hTh hW (c_N_fail hls 1 qr3) kc_N_fail ki_N_fail ks_N_fail l_N_122 rfl (lt_N) (ce_N) rfl ⟨Nat.le_of_ble_eq_true rfl, Nat.le_of_ble_eq_true rfl⟩ ⟨Nat.le_of_ble_eq_true rfl, Nat.le_of_ble_eq_true rfl⟩ hl.1 rfl (Nat.le_of_ble_eq_true rfl) d_N_deposit_25 (fun E _ _ _ _ hex => hex.elim) (fun rr MM H locs hp hW => ?_)
    obtain ⟨rfl, rfl⟩ := hp
    refine lv_i2d hx hb d_N_deposit_28 ?_
    obtain rfl := Option.some.inj hf
    exact rd_dret C9 hlk hret hW ⟨rfl, rfl⟩ (by decide) (by decide) d_N_deposit_29
  · have hf := rd_f hf c2
    refine lv_dload_n hx hb d_N_deposit_9 rfl (lv_at hl 2 rfl) ?_
    refine lv_dconst0 hx hb d_N_deposit_10 ?_
    refine lv_dcmp hx hb d_N_deposit_11 ?_
    refine lv_if_le (tgt := 23) hx hb d_N_deposit_12 (by decide) (fun c4 => ?_) (fun c4 => ?_)
    · have hf := rd_t hf c4
      refine lv_aload_n hx hb d_N_deposit_23 rfl (lv_at hl 0 rfl) ?_
      refine lv_iconst (v := 1) hx hb d_N_deposit_24 (by decide) ?_
      obtain ⟨r5, qr5, hf⟩ := rd_bind hf
      refine rd_callV (As := [.int 1]) (rest := []) rd_gd C9 hTh hW (c_N_fail hls 1 qr5) kc_N_fail ki_N_fail ks_N_fail l_N_122 rfl (lt_N) (ce_N) rfl ⟨Nat.le_of_ble_eq_true rfl, Nat.le_of_ble_eq_true rfl⟩ ⟨Nat.le_of_ble_eq_true rfl, Nat.le_of_ble_eq_true rfl⟩ hl.1 rfl (Nat.le_of_ble_eq_true rfl) d_N_deposit_25 (fun E _ _ _ _ hex => hex.elim) (fun rr MM H locs hp hW => ?_)
      obtain ⟨rfl, rfl⟩ := hp
      refine lv_i2d hx hb d_N_deposit_28 ?_
      obtain rfl := Option.some.inj hf
      exact rd_dret C9 hlk hret hW ⟨rfl, rfl⟩ (by decide) (by decide) d_N_deposit_29
    · have hf := rd_f hf c4
      refine lv_dload_n hx hb d_N_deposit_15 rfl (lv_at hl 2 rfl) ?_
      refine rd_ldcD C9 l_N_120 d_N_deposit_16 ?_
      refine lv_dcmp hx hb d_N_deposit_19 ?_
      refine lv_if_le (tgt := 30) hx hb d_N_deposit_20 (by decide) (fun c6 => ?_) (fun c6 => ?_)
      · have hf := rd_t hf c6
        refine lv_aload_n hx hb d_N_deposit_30 rfl (lv_at hl 0 rfl) ?_
        refine gf_N_balance C9 hW l_N_15 d_N_deposit_31 ?_
        refine lv_iload_n hx hb d_N_deposit_34 rfl (lv_at hl 1 rfl) ?_
        refine lv_dup2_11 hx hb d_N_deposit_35 rfl rfl ?_
        obtain ⟨g7, hf⟩ := rd_g hf
        refine al_m_balance C9 hW rfl g7 d_N_deposit_36 ?_
        refine lv_dload_n hx hb d_N_deposit_37 rfl (lv_at hl 2 rfl) ?_
        refine rd_ldcD C9 l_N_80 d_N_deposit_38 ?_
        obtain ⟨g_41, hf⟩ := rd_g hf
        refine lv_dmul hx hb d_N_deposit_41 g_41 ?_
        refine lv_d2l hx hb d_N_deposit_42 ?_
        refine lv_ladd hx hb d_N_deposit_43 ?_
        obtain ⟨g8, hf⟩ := rd_g hf
        refine as_m_balance C9 hW rfl g8 d_N_deposit_44 (fun H locs hW => ?_)
        obtain ⟨M9, hM9, hf⟩ := rd_k_el hf
        rw [← hM9] at hW
        refine lv_aload_n hx hb d_N_deposit_45 rfl (lv_at hl 0 rfl) ?_
        refine lv_aload_n hx hb d_N_deposit_46 rfl (lv_at hl 0 rfl) ?_
        refine gf_N_balance C9 hW l_N_15 d_N_deposit_47 ?_
        refine lv_iload_n hx hb d_N_deposit_50 rfl (lv_at hl 1 rfl) ?_
        obtain ⟨g10, hf⟩ := rd_g hf
        refine al_m_balance C9 hW rfl g10 d_N_deposit_51 ?_
        obtain ⟨r11, qr11, hf⟩ := rd_bind hf
        refine rd_callV (As := [.long ((M9 2).2.1 p1.toNatClampNeg)]) (rest := []) rd_gd C9 hTh hW (c_N_shown hls ((M9 2).2.1 p1.toNatClampNeg) qr11) kc_N_shown ki_N_shown ks_N_shown l_N_129 rfl (lt_N) (ce_N) rfl ⟨Nat.le_of_ble_eq_true rfl, Nat.le_of_ble_eq_true rfl⟩ ⟨Nat.le_of_ble_eq_true rfl, Nat.le_of_ble_eq_true rfl⟩ hl.1 rfl (Nat.le_of_ble_eq_true rfl) d_N_deposit_52 (fun E _ _ _ _ hex => hex.elim) (fun rr MM H locs hp hW => ?_)
        obtain ⟨rfl, rfl⟩ := hp
        obtain rfl := Option.some.inj hf
        exact rd_dret C9 hlk hret hW ⟨rfl, rfl⟩ (by decide) (by decide) d_N_deposit_55
      · have hf := rd_f hf c6
        refine lv_aload_n hx hb d_N_deposit_23 rfl (lv_at hl 0 rfl) ?_
        refine lv_iconst (v := 1) hx hb d_N_deposit_24 (by decide) ?_
        obtain ⟨r12, qr12, hf⟩ := rd_bind hf
        refine rd_callV (As := [.int 1]) (rest := []) rd_gd C9 hTh hW (c_N_fail hls 1 qr12) kc_N_fail ki_N_fail ks_N_fail l_N_122 rfl (lt_N) (ce_N) rfl ⟨Nat.le_of_ble_eq_true rfl, Nat.le_of_ble_eq_true rfl⟩ ⟨Nat.le_of_ble_eq_true rfl, Nat.le_of_ble_eq_true rfl⟩ hl.1 rfl (Nat.le_of_ble_eq_true rfl) d_N_deposit_25 (fun E _ _ _ _ hex => hex.elim) (fun rr MM H locs hp hW => ?_)
        obtain ⟨rfl, rfl⟩ := hp
        refine lv_i2d hx hb d_N_deposit_28 ?_
        obtain rfl := Option.some.inj hf
        exact rd_dret C9 hlk hret hW ⟨rfl, rfl⟩ (by decide) (by decide) d_N_deposit_29
def f_N_contact (M : rd_M) (p1 : Int32) : Option (Int32 × rd_M) :=
  (f_N_in M p1 0 3).bind fun r1 =>
  if r1 = 0 then
    (f_N_fail M 1).bind fun r9 =>
    some (r9.1, r9.2)
  else
    if ((M 0).1 7) = 8 then
      (f_N_fail M 4).bind fun r8 =>
      some (r8.1, r8.2)
    else
      if rd_in ((M 0).1 7) 8 then
      rd_k (rd_iU M 6 (((M 0).1 7).toNatClampNeg) p1) fun M5 =>
      rd_k (rd_iU M5 0 7 (((M5 0).1 7) + 1)) fun M6 =>
      (f_N_give M6 (((M6 0).1 7) - 1)).bind fun r7 =>
      some (r7.1, r7.2)
      else none
set_option maxRecDepth 100000 in
set_option maxHeartbeats 4000000 in
theorem c_N_contact {l : Launch} (hls : l.stackTraces = false) {D : va_G} {Ka : Nat → ClassId} {ad : Nat → Nat} {M : rd_M} (p1 : Int32)  {o : Int32 × rd_M} (hf : f_N_contact M p1 = some o) :
    rd_Met l y_N_contact b_N_contact 2 (some .int) (1, 22, 0, 0) rd_T rd_ss D rd_cl (rd_ty Ka) (rm_L Ka) ad M [.ref (ad 0), .int p1] (fun r M1 => r = some (.int o.1) ∧ o.2 = M1) (fun _ => False) := by
  refine rd_body (by decide) (Nat.le_of_ble_eq_true rfl) ?_
  intro p e s m below meth c C9 hlk hret hnt hTh hW ls hl
  have hx := C9.1.1
  have hb := C9.1.2.1
  have hl : lv_has ls 2 [(0, .ref (ad 0)), (1, .int p1)] := hl
  unfold f_N_contact at hf
  refine lv_iload_n hx hb d_N_contact_0 rfl (lv_at hl 1 rfl) ?_
  refine lv_iconst (v := 0) hx hb d_N_contact_1 (by decide) ?_
  refine lv_iconst (v := 3) hx hb d_N_contact_2 (by decide) ?_
  obtain ⟨r1, qr1, hf⟩ := rd_bind hf
  refine rd_callS (As := [.int p1, .int 0, .int 3]) (rest := []) rd_gd C9 hTh hW (c_N_in hls p1 0 3 qr1) kc_N_in ki_N_in l_N_116 rfl ⟨Nat.le_of_ble_eq_true rfl, Nat.le_of_ble_eq_true rfl⟩ ⟨Nat.le_of_ble_eq_true rfl, Nat.le_of_ble_eq_true rfl⟩ hl.1 rfl (Nat.le_of_ble_eq_true rfl) d_N_contact_3 (fun E _ _ _ _ hex => hex.elim) (fun rr MM H locs hp hW => ?_)
  obtain ⟨rfl, rfl⟩ := hp
  refine lv_if_ne (tgt := 15) hx hb d_N_contact_6 (by decide) (fun c2 => ?_) (fun c2 => ?_)
  · have hf := rd_f hf c2
    refine lv_aload_n hx hb d_N_contact_15 rfl (lv_at hl 0 rfl) ?_
    refine gf_N_contacts C9 hW l_N_82 d_N_contact_16 ?_
    refine lv_bipush (v := 8) hx hb d_N_contact_19 (by decide) ?_
    refine lv_icmp_ne (tgt := 30) hx hb d_N_contact_21 (by decide) (fun c3 => ?_) (fun c3 => ?_)
    · have hf := rd_f hf c3
      refine lv_aload_n hx hb d_N_contact_30 rfl (lv_at hl 0 rfl) ?_
      refine gf_N_contactOwner C9 hW l_N_28 d_N_contact_31 ?_
      refine lv_aload_n hx hb d_N_contact_34 rfl (lv_at hl 0 rfl) ?_
      refine gf_N_contacts C9 hW l_N_82 d_N_contact_35 ?_
      refine lv_iload_n hx hb d_N_contact_38 rfl (lv_at hl 1 rfl) ?_
      obtain ⟨g4, hf⟩ := rd_g hf
      refine as_m_contactOwner C9 hW rfl g4 d_N_contact_39 (fun H locs hW => ?_)
      obtain ⟨M5, hM5, hf⟩ := rd_k_el hf
      rw [← hM5] at hW
      refine lv_aload_n hx hb d_N_contact_40 rfl (lv_at hl 0 rfl) ?_
      refine lv_dup hx hb d_N_contact_41 rfl ?_
      refine gf_N_contacts C9 hW l_N_82 d_N_contact_42 ?_
      refine lv_iconst (v := 1) hx hb d_N_contact_45 (by decide) ?_
      refine lv_iadd hx hb d_N_contact_46 ?_
      refine pf_N_contacts C9 hW l_N_82 d_N_contact_47 (fun H locs hW => ?_)
      obtain ⟨M6, hM6, hf⟩ := rd_k_el hf
      rw [← hM6] at hW
      refine lv_aload_n hx hb d_N_contact_50 rfl (lv_at hl 0 rfl) ?_
      refine lv_aload_n hx hb d_N_contact_51 rfl (lv_at hl 0 rfl) ?_
      refine gf_N_contacts C9 hW l_N_82 d_N_contact_52 ?_
      refine lv_iconst (v := 1) hx hb d_N_contact_55 (by decide) ?_
      refine lv_isub hx hb d_N_contact_56 ?_
      obtain ⟨r7, qr7, hf⟩ := rd_bind hf
      refine rd_callV (As := [.int (((M6 0).1 7) - 1)]) (rest := []) rd_gd C9 hTh hW (c_N_give hls (((M6 0).1 7) - 1) qr7) kc_N_give ki_N_give ks_N_give l_N_126 rfl (lt_N) (ce_N) rfl ⟨Nat.le_of_ble_eq_true rfl, Nat.le_of_ble_eq_true rfl⟩ ⟨Nat.le_of_ble_eq_true rfl, Nat.le_of_ble_eq_true rfl⟩ hl.1 rfl (Nat.le_of_ble_eq_true rfl) d_N_contact_57 (fun E _ _ _ _ hex => hex.elim) (fun rr MM H locs hp hW => ?_)
      obtain ⟨rfl, rfl⟩ := hp
      obtain rfl := Option.some.inj hf
      exact rd_iret C9 hlk hret hW ⟨rfl, rfl⟩ (by decide) (by decide) d_N_contact_60
    · have hf := rd_t hf c3
      refine lv_aload_n hx hb d_N_contact_24 rfl (lv_at hl 0 rfl) ?_
      refine lv_iconst (v := 4) hx hb d_N_contact_25 (by decide) ?_
      obtain ⟨r8, qr8, hf⟩ := rd_bind hf
      refine rd_callV (As := [.int 4]) (rest := []) rd_gd C9 hTh hW (c_N_fail hls 4 qr8) kc_N_fail ki_N_fail ks_N_fail l_N_122 rfl (lt_N) (ce_N) rfl ⟨Nat.le_of_ble_eq_true rfl, Nat.le_of_ble_eq_true rfl⟩ ⟨Nat.le_of_ble_eq_true rfl, Nat.le_of_ble_eq_true rfl⟩ hl.1 rfl (Nat.le_of_ble_eq_true rfl) d_N_contact_26 (fun E _ _ _ _ hex => hex.elim) (fun rr MM H locs hp hW => ?_)
      obtain ⟨rfl, rfl⟩ := hp
      obtain rfl := Option.some.inj hf
      exact rd_iret C9 hlk hret hW ⟨rfl, rfl⟩ (by decide) (by decide) d_N_contact_29
  · have hf := rd_t hf c2
    refine lv_aload_n hx hb d_N_contact_9 rfl (lv_at hl 0 rfl) ?_
    refine lv_iconst (v := 1) hx hb d_N_contact_10 (by decide) ?_
    obtain ⟨r9, qr9, hf⟩ := rd_bind hf
    refine rd_callV (As := [.int 1]) (rest := []) rd_gd C9 hTh hW (c_N_fail hls 1 qr9) kc_N_fail ki_N_fail ks_N_fail l_N_122 rfl (lt_N) (ce_N) rfl ⟨Nat.le_of_ble_eq_true rfl, Nat.le_of_ble_eq_true rfl⟩ ⟨Nat.le_of_ble_eq_true rfl, Nat.le_of_ble_eq_true rfl⟩ hl.1 rfl (Nat.le_of_ble_eq_true rfl) d_N_contact_11 (fun E _ _ _ _ hex => hex.elim) (fun rr MM H locs hp hW => ?_)
    obtain ⟨rfl, rfl⟩ := hp
    obtain rfl := Option.some.inj hf
    exact rd_iret C9 hlk hret hW ⟨rfl, rfl⟩ (by decide) (by decide) d_N_contact_14
