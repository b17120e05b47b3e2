def lb_N_handOver_56 (q3 : Int32) (q2 : Int32) (q1 : Int32) (Kf : Int32 → rd_M → Option (rd_M)) (rec : Int32 → rd_M → Option (rd_M)) (v56_4 : Int32) (v56_M : rd_M) : Option (rd_M) :=
  if ((v56_M 0).1 9) ≤ v56_4 then
    Kf v56_4 v56_M
  else
    if rd_in v56_4 8 then
    if ((v56_M 7).1 v56_4.toNatClampNeg) < 0 then
      rec (v56_4 + 1) v56_M
    else
      if rd_in v56_4 8 then
      if ((v56_M 9).1 v56_4.toNatClampNeg) = q1 then
        if rd_in v56_4 8 then
        rd_k (rd_iU v56_M 7 v56_4.toNatClampNeg q2) fun M18 =>
        rec (v56_4 + 1) M18
        else none
      else
        rec (v56_4 + 1) v56_M
      else none
    else none
def f_N_handOver (M : rd_M) (p1 : Int32) : Option (rd_M) :=
  if rd_in p1 10 then
  if rd_in p1 10 then
  (f_N_noGrace M p1).bind fun r3 =>
  (f_N_pay r3 ((M 16).1 p1.toNatClampNeg) 2 1 p1 2).bind fun r4 =>
  if rd_in p1 10 then
  if rd_in p1 10 then
  rd_k (rd_iU r4 11 p1.toNatClampNeg (((r4 11).1 p1.toNatClampNeg) + 10)) fun M7 =>
  if rd_in p1 10 then
  rd_k (rd_iU M7 10 p1.toNatClampNeg ((M 16).1 p1.toNatClampNeg)) fun M9 =>
  if rd_in p1 10 then
  rd_k (rd_iU M9 16 p1.toNatClampNeg (-1)) fun M11 =>
  rd_it (fun _ _ => none) (lb_N_handOver_56 ((M 10).1 p1.toNatClampNeg) ((M 16).1 p1.toNatClampNeg) p1 (fun w56_4 w56_M =>
    (f_N_tell w56_M ((M 10).1 p1.toNatClampNeg) 2 p1).bind fun r19 =>
    (f_N_tell r19 ((M 16).1 p1.toNatClampNeg) 2 p1).bind fun r20 =>
    some r20)) 64 0 M11
  else none
  else none
  else none
  else none
  else none
  else none
set_option maxRecDepth 100000 in
set_option maxHeartbeats 4000000 in
theorem c_N_handOver {l : Launch} (hls : l.stackTraces = false) {D : va_G} {Ka : Nat → ClassId} {ad : Nat → Nat} {M : rd_M} (p1 : Int32)  {o : rd_M} (hf : f_N_handOver M p1 = some o) :
    rd_Met l y_N_handOver b_N_handOver 5 none (2, 52, 0, 0) rd_T rd_ss D rd_cl (rd_ty Ka) (rm_L Ka) ad M [.ref (ad 0), .int p1] (fun r M1 => r = none ∧ o = M1) (fun _ => False) := by
  refine rd_body (by decide) (Nat.le_of_ble_eq_true rfl) ?_
  intro p e s m below meth c C9 hlk hret hnt hTh hW ls hl
  have hx := C9.1.1
  have hb := C9.1.2.1
  have hl : lv_has ls 5 [(0, .ref (ad 0)), (1, .int p1)] := hl
  unfold f_N_handOver at hf
  refine lv_aload_n hx hb d_N_handOver_0 rfl (lv_at hl 0 rfl) ?_
  refine gf_N_wants C9 hW l_N_58 d_N_handOver_1 ?_
  refine lv_iload_n hx hb d_N_handOver_4 rfl (lv_at hl 1 rfl) ?_
  obtain ⟨g1, hf⟩ := rd_g hf
  refine al_m_wants C9 hW rfl g1 d_N_handOver_5 ?_
  refine lv_istore_n (lv' := [(2, .int ((M 16).1 p1.toNatClampNeg)), (0, .ref (ad 0)), (1, .int p1)]) hx hb d_N_handOver_6 rfl hl (by decide) rfl (fun ls hl => ?_)
  refine lv_aload_n hx hb d_N_handOver_7 rfl (lv_at hl 1 rfl) ?_
  refine gf_N_owner C9 hW l_N_40 d_N_handOver_8 ?_
  refine lv_iload_n hx hb d_N_handOver_11 rfl (lv_at hl 2 rfl) ?_
  obtain ⟨g2, hf⟩ := rd_g hf
  refine al_m_owner C9 hW rfl g2 d_N_handOver_12 ?_
  refine lv_istore_n (lv' := [(3, .int ((M 10).1 p1.toNatClampNeg)), (2, .int ((M 16).1 p1.toNatClampNeg)), (0, .ref (ad 0)), (1, .int p1)]) hx hb d_N_handOver_13 rfl hl (by decide) rfl (fun ls hl => ?_)
  refine lv_aload_n hx hb d_N_handOver_14 rfl (lv_at hl 2 rfl) ?_
  refine lv_iload_n hx hb d_N_handOver_15 rfl (lv_at hl 3 rfl) ?_
  obtain ⟨r3, qr3, hf⟩ := rd_bind hf
  refine rd_callV (As := [.int p1]) (rest := []) rd_gd C9 hTh hW (c_N_noGrace hls p1 qr3) kc_N_noGrace ki_N_noGrace ks_N_noGrace l_N_151 rfl (lt_N) (ce_N) rfl ⟨Nat.le_of_ble_eq_true rfl, Nat.le_of_ble_eq_true rfl⟩ ⟨Nat.le_of_ble_eq_true rfl, Nat.le_of_ble_eq_true rfl⟩ hl.1 rfl (Nat.le_of_ble_eq_true rfl) d_N_handOver_16 (fun E _ _ _ _ hex => hex.elim) (fun rr MM H locs hp hW => ?_)
  obtain ⟨rfl, rfl⟩ := hp
  refine lv_aload_n hx hb d_N_handOver_19 rfl (lv_at hl 2 rfl) ?_
  refine lv_iload_n hx hb d_N_handOver_20 rfl (lv_at hl 1 rfl) ?_
  refine lv_iconst (v := 2) hx hb d_N_handOver_21 (by decide) ?_
  refine lv_iconst (v := 1) hx hb d_N_handOver_22 (by decide) ?_
  refine lv_iload_n hx hb d_N_handOver_23 rfl (lv_at hl 3 rfl) ?_
  refine lv_iconst (v := 2) hx hb d_N_handOver_24 (by decide) ?_
  obtain ⟨r4, qr4, hf⟩ := rd_bind hf
  refine rd_callV (As := [.int ((M 16).1 p1.toNatClampNeg), .int 2, .int 1, .int p1, .int 2]) (rest := []) rd_gd C9 hTh hW (c_N_pay hls ((M 16).1 p1.toNatClampNeg) 2 1 p1 2 qr4) kc_N_pay ki_N_pay ks_N_pay l_N_154 rfl (lt_N) (ce_N) rfl ⟨Nat.le_of_ble_eq_true rfl, Nat.le_of_ble_eq_true rfl⟩ ⟨Nat.le_of_ble_eq_true rfl, Nat.le_of_ble_eq_true rfl⟩ hl.1 rfl (Nat.le_of_ble_eq_true rfl) d_N_handOver_25 (fun E _ _ _ _ hex => hex.elim) (fun rr MM H locs hp hW => ?_)
  obtain ⟨rfl, rfl⟩ := hp
  refine lv_aload_n hx hb d_N_handOver_28 rfl (lv_at hl 2 rfl) ?_
  refine gf_N_expiry C9 hW l_N_43 d_N_handOver_29 ?_
  refine lv_iload_n hx hb d_N_handOver_32 rfl (lv_at hl 3 rfl) ?_
  refine lv_dup2_11 hx hb d_N_handOver_33 rfl rfl ?_
  obtain ⟨g5, hf⟩ := rd_g hf
  refine al_m_expiry C9 hW rfl g5 d_N_handOver_34 ?_
  refine lv_bipush (v := 10) hx hb d_N_handOver_35 (by decide) ?_
  refine lv_iadd hx hb d_N_handOver_37 ?_
  obtain ⟨g6, hf⟩ := rd_g hf
  refine as_m_expiry C9 hW rfl g6 d_N_handOver_38 (fun H locs hW => ?_)
  obtain ⟨M7, hM7, hf⟩ := rd_k_el hf
  rw [← hM7] at hW
  refine lv_aload_n hx hb d_N_handOver_39 rfl (lv_at hl 2 rfl) ?_
  refine gf_N_owner C9 hW l_N_40 d_N_handOver_40 ?_
  refine lv_iload_n hx hb d_N_handOver_43 rfl (lv_at hl 3 rfl) ?_
  refine lv_iload_n hx hb d_N_handOver_44 rfl (lv_at hl 1 rfl) ?_
  obtain ⟨g8, hf⟩ := rd_g hf
  refine as_m_owner C9 hW rfl g8 d_N_handOver_45 (fun H locs hW => ?_)
  obtain ⟨M9, hM9, hf⟩ := rd_k_el hf
  rw [← hM9] at hW
  refine lv_aload_n hx hb d_N_handOver_46 rfl (lv_at hl 2 rfl) ?_
  refine gf_N_wants C9 hW l_N_58 d_N_handOver_47 ?_
  refine lv_iload_n hx hb d_N_handOver_50 rfl (lv_at hl 3 rfl) ?_
  refine lv_iconst (v := (-1)) hx hb d_N_handOver_51 (by decide) ?_
  obtain ⟨g10, hf⟩ := rd_g hf
  refine as_m_wants C9 hW rfl g10 d_N_handOver_52 (fun H locs hW => ?_)
  obtain ⟨M11, hM11, hf⟩ := rd_k_el hf
  rw [← hM11] at hW
  refine lv_iconst (v := 0) hx hb d_N_handOver_53 (by decide) ?_
  refine lv_istore (lv' := [(4, .int 0), (3, .int ((M 10).1 p1.toNatClampNeg)), (2, .int ((M 16).1 p1.toNatClampNeg)), (0, .ref (ad 0)), (1, .int p1)]) hx hb d_N_handOver_54 hl (by decide) rfl (fun ls hl => ?_)
  have loop_56 : ∀ (Kf : Int32 → rd_M → Option (rd_M)) (hk_56 : ∀ (w56_4 : Int32) (w56_M : rd_M) (H : Heap) (locs : List Loc) (ls : Array Slot), Kf w56_4 w56_M = some o → rd_W D rd_cl (rm_L Ka) ad (rd_A (rm_L Ka) ad s.heap.size) s.heap w56_M H locs → lv_has ls 5 [(4, .int w56_4), (3, .int ((M 10).1 p1.toNatClampNeg)), (2, .int ((M 16).1 p1.toNatClampNeg)), (0, .ref (ad 0)), (1, .int p1)] → W p l e { frames := 2, cells := 0, slots := 0, locals := 52 } s m [.ref (ad 0), .int p1].toArray below meth c H locs 0 0 (rd_Z below (rd_O D rd_cl (rm_L Ka) ad M (rd_A (rm_L Ka) ad s.heap.size) 0 0 (fun r M1 => r = none ∧ o = M1) (fun _ => False)) s) (F0 m 100 ls [])) (fu : Nat) (v56_4 : Int32) (v56_M : rd_M) (H : Heap) (locs : List Loc) (ls : Array Slot), rd_it (fun _ _ => none) (lb_N_handOver_56 ((M 10).1 p1.toNatClampNeg) ((M 16).1 p1.toNatClampNeg) p1 Kf) fu v56_4 v56_M = some o → rd_W D rd_cl (rm_L Ka) ad (rd_A (rm_L Ka) ad s.heap.size) s.heap v56_M H locs → lv_has ls 5 [(4, .int v56_4), (3, .int ((M 10).1 p1.toNatClampNeg)), (2, .int ((M 16).1 p1.toNatClampNeg)), (0, .ref (ad 0)), (1, .int p1)] → W p l e { frames := 2, cells := 0, slots := 0, locals := 52 } s m [.ref (ad 0), .int p1].toArray below meth c H locs 0 0 (rd_Z below (rd_O D rd_cl (rm_L Ka) ad M (rd_A (rm_L Ka) ad s.heap.size) 0 0 (fun r M1 => r = none ∧ o = M1) (fun _ => False)) s) (F0 m 56 ls []) := by
    intro Kf hk_56 fu
    induction fu with
    | zero => intro _ _ H locs ls hf; exact (rd_nf hf).elim
    | succ fu ih_56 =>
      intro v56_4 v56_M H locs ls hf hW hl
      rw [rd_it_s] at hf
      unfold lb_N_handOver_56 at hf
      refine lv_iload hx hb d_N_handOver_56 (lv_at hl 0 rfl) ?_
      refine lv_aload_n hx hb d_N_handOver_58 rfl (lv_at hl 3 rfl) ?_
      refine gf_N_hosts C9 hW l_N_85 d_N_handOver_59 ?_
      refine lv_icmp_ge (tgt := 100) hx hb d_N_handOver_62 (by decide) (fun c21 => ?_) (fun c21 => ?_)
      · have hf := rd_t hf c21
        exact hk_56 _ _ _ _ _ hf hW (lv_sub hl [0, 1, 2, 3, 4] rfl)
      · have hf := rd_f hf c21
        refine lv_aload_n hx hb d_N_handOver_65 rfl (lv_at hl 3 rfl) ?_
        refine gf_N_hostOwner C9 hW l_N_31 d_N_handOver_66 ?_
        refine lv_iload hx hb d_N_handOver_69 (lv_at hl 0 rfl) ?_
        obtain ⟨g22, hf⟩ := rd_g hf
        refine al_m_hostOwner C9 hW rfl g22 d_N_handOver_71 ?_
        refine lv_if_lt (tgt := 94) hx hb d_N_handOver_72 (by decide) (fun c23 => ?_) (fun c23 => ?_)
        · have hf := rd_t hf c23
          refine lv_iinc (v := v56_4 + 1) (lv' := [(4, .int (v56_4 + 1)), (3, .int ((M 10).1 p1.toNatClampNeg)), (2, .int ((M 16).1 p1.toNatClampNeg)), (0, .ref (ad 0)), (1, .int p1)]) hx hb d_N_handOver_94 hl (k := 0) rfl rfl (by decide) rfl (fun ls hl => ?_)
          refine lv_goto (tgt := 56) hx hb d_N_handOver_97 (by decide) ?_
          exact ih_56 _ _ _ _ _ hf hW (lv_sub hl [0, 1, 2, 3, 4] rfl)
        · have hf := rd_f hf c23
          refine lv_aload_n hx hb d_N_handOver_75 rfl (lv_at hl 3 rfl) ?_
          refine gf_N_under C9 hW l_N_37 d_N_handOver_76 ?_
          refine lv_iload hx hb d_N_handOver_79 (lv_at hl 0 rfl) ?_
          obtain ⟨g24, hf⟩ := rd_g hf
          refine al_m_under C9 hW rfl g24 d_N_handOver_81 ?_
          refine lv_iload_n hx hb d_N_handOver_82 rfl (lv_at hl 4 rfl) ?_
          refine lv_icmp_ne (tgt := 94) hx hb d_N_handOver_83 (by decide) (fun c25 => ?_) (fun c25 => ?_)
          · have hf := rd_f hf c25
            refine lv_iinc (v := v56_4 + 1) (lv' := [(4, .int (v56_4 + 1)), (3, .int ((M 10).1 p1.toNatClampNeg)), (2, .int ((M 16).1 p1.toNatClampNeg)), (0, .ref (ad 0)), (1, .int p1)]) hx hb d_N_handOver_94 hl (k := 0) rfl rfl (by decide) rfl (fun ls hl => ?_)
            refine lv_goto (tgt := 56) hx hb d_N_handOver_97 (by decide) ?_
            exact ih_56 _ _ _ _ _ hf hW (lv_sub hl [0, 1, 2, 3, 4] rfl)
          · have hf := rd_t hf c25
            refine lv_aload_n hx hb d_N_handOver_86 rfl (lv_at hl 3 rfl) ?_
            refine gf_N_hostOwner C9 hW l_N_31 d_N_handOver_87 ?_
            refine lv_iload hx hb d_N_handOver_90 (lv_at hl 0 rfl) ?_
            refine lv_iload_n hx hb d_N_handOver_92 rfl (lv_at hl 2 rfl) ?_
            obtain ⟨g26, hf⟩ := rd_g hf
            refine as_m_hostOwner C9 hW rfl g26 d_N_handOver_93 (fun H locs hW => ?_)
            obtain ⟨M27, hM27, hf⟩ := rd_k_el hf
            rw [← hM27] at hW
            refine lv_iinc (v := v56_4 + 1) (lv' := [(4, .int (v56_4 + 1)), (3, .int ((M 10).1 p1.toNatClampNeg)), (2, .int ((M 16).1 p1.toNatClampNeg)), (0, .ref (ad 0)), (1, .int p1)]) hx hb d_N_handOver_94 hl (k := 0) rfl rfl (by decide) rfl (fun ls hl => ?_)
            refine lv_goto (tgt := 56) hx hb d_N_handOver_97 (by decide) ?_
            exact ih_56 _ _ _ _ _ hf hW (lv_sub hl [0, 1, 2, 3, 4] rfl)
  refine loop_56 _ ?_ 64 _ _ _ _ _ hf hW (lv_sub hl [0, 1, 2, 3, 4] rfl)
  intro w56_4 w56_M H locs ls hf hW hl
  refine lv_aload_n hx hb d_N_handOver_100 rfl (lv_at hl 3 rfl) ?_
  refine lv_iload_n hx hb d_N_handOver_101 rfl (lv_at hl 1 rfl) ?_
  refine lv_iconst (v := 2) hx hb d_N_handOver_102 (by decide) ?_
  refine lv_iload_n hx hb d_N_handOver_103 rfl (lv_at hl 4 rfl) ?_
  obtain ⟨r19, qr19, hf⟩ := rd_bind hf
  refine rd_callV (As := [.int ((M 10).1 p1.toNatClampNeg), .int 2, .int p1]) (rest := []) rd_gd C9 hTh hW (c_N_tell hls ((M 10).1 p1.toNatClampNeg) 2 p1 qr19) kc_N_tell ki_N_tell ks_N_tell l_N_171 rfl (lt_N) (ce_N) rfl ⟨Nat.le_of_ble_eq_true rfl, Nat.le_of_ble_eq_true rfl⟩ ⟨Nat.le_of_ble_eq_true rfl, Nat.le_of_ble_eq_true rfl⟩ hl.1 rfl (Nat.le_of_ble_eq_true rfl) d_N_handOver_104 (fun E _ _ _ _ hex => hex.elim) (fun rr MM H locs hp hW => ?_)
  obtain ⟨rfl, rfl⟩ := hp
  refine lv_aload_n hx hb d_N_handOver_107 rfl (lv_at hl 3 rfl) ?_
  refine lv_iload_n hx hb d_N_handOver_108 rfl (lv_at hl 2 rfl) ?_
  refine lv_iconst (v := 2) hx hb d_N_handOver_109 (by decide) ?_
  refine lv_iload_n hx hb d_N_handOver_110 rfl (lv_at hl 4 rfl) ?_
  obtain ⟨r20, qr20, hf⟩ := rd_bind hf
  refine rd_callV (As := [.int ((M 16).1 p1.toNatClampNeg), .int 2, .int p1]) (rest := []) rd_gd C9 hTh hW (c_N_tell hls ((M 16).1 p1.toNatClampNeg) 2 p1 qr20) kc_N_tell ki_N_tell ks_N_tell l_N_171 rfl (lt_N) (ce_N) rfl ⟨Nat.le_of_ble_eq_true rfl, Nat.le_of_ble_eq_true rfl⟩ ⟨Nat.le_of_ble_eq_true rfl, Nat.le_of_ble_eq_true rfl⟩ hl.1 rfl (Nat.le_of_ble_eq_true rfl) d_N_handOver_111 (fun E _ _ _ _ hex => hex.elim) (fun rr MM H locs hp hW => ?_)
  obtain ⟨rfl, rfl⟩ := hp
  obtain rfl := Option.some.inj hf
  exact rd_vret C9 hlk hret hW ⟨rfl, rfl⟩ (by decide) (by decide) d_N_handOver_114
def f_N_endTransfer (M : rd_M) (p1 : Int32) : Option (rd_M) :=
  if rd_in p1 10 then
  (f_N_tell M ((M 16).1 p1.toNatClampNeg) 3 p1).bind fun r2 =>
  if rd_in p1 10 then
  rd_k (rd_iU r2 16 p1.toNatClampNeg (-1)) fun M4 =>
  some M4
  else none
  else none
set_option maxRecDepth 100000 in
set_option maxHeartbeats 4000000 in
theorem c_N_endTransfer {l : Launch} (hls : l.stackTraces = false) {D : va_G} {Ka : Nat → ClassId} {ad : Nat → Nat} {M : rd_M} (p1 : Int32)  {o : rd_M} (hf : f_N_endTransfer M p1 = some o) :
    rd_Met l y_N_endTransfer b_N_endTransfer 2 none (2, 45, 0, 0) rd_T rd_ss D rd_cl (rd_ty Ka) (rm_L Ka) ad M [.ref (ad 0), .int p1] (fun r M1 => r = none ∧ o = M1) (fun _ => False) := by
  refine rd_body (by decide) (Nat.le_of_ble_eq_true rfl) ?_
  intro p e s m below meth c C9 hlk hret hnt hTh hW ls hl
  have hx := C9.1.1
  have hb := C9.1.2.1
  have hl : lv_has ls 2 [(0, .ref (ad 0)), (1, .int p1)] := hl
  unfold f_N_endTransfer at hf
  refine lv_aload_n hx hb d_N_endTransfer_0 rfl (lv_at hl 0 rfl) ?_
  refine lv_aload_n hx hb d_N_endTransfer_1 rfl (lv_at hl 0 rfl) ?_
  refine gf_N_wants C9 hW l_N_58 d_N_endTransfer_2 ?_
  refine lv_iload_n hx hb d_N_endTransfer_5 rfl (lv_at hl 1 rfl) ?_
  obtain ⟨g1, hf⟩ := rd_g hf
  refine al_m_wants C9 hW rfl g1 d_N_endTransfer_6 ?_
  refine lv_iconst (v := 3) hx hb d_N_endTransfer_7 (by decide) ?_
  refine lv_iload_n hx hb d_N_endTransfer_8 rfl (lv_at hl 1 rfl) ?_
  obtain ⟨r2, qr2, hf⟩ := rd_bind hf
  refine rd_callV (As := [.int ((M 16).1 p1.toNatClampNeg), .int 3, .int p1]) (rest := []) rd_gd C9 hTh hW (c_N_tell hls ((M 16).1 p1.toNatClampNeg) 3 p1 qr2) kc_N_tell ki_N_tell ks_N_tell l_N_171 rfl (lt_N) (ce_N) rfl ⟨Nat.le_of_ble_eq_true rfl, Nat.le_of_ble_eq_true rfl⟩ ⟨Nat.le_of_ble_eq_true rfl, Nat.le_of_ble_eq_true rfl⟩ hl.1 rfl (Nat.le_of_ble_eq_true rfl) d_N_endTransfer_9 (fun E _ _ _ _ hex => hex.elim) (fun rr MM H locs hp hW => ?_)
  obtain ⟨rfl, rfl⟩ := hp
  refine lv_aload_n hx hb d_N_endTransfer_12 rfl (lv_at hl 0 rfl) ?_
  refine gf_N_wants C9 hW l_N_58 d_N_endTransfer_13 ?_
  refine lv_iload_n hx hb d_N_endTransfer_16 rfl (lv_at hl 1 rfl) ?_
  refine lv_iconst (v := (-1)) hx hb d_N_endTransfer_17 (by decide) ?_
  obtain ⟨g3, hf⟩ := rd_g hf
  refine as_m_wants C9 hW rfl g3 d_N_endTransfer_18 (fun H locs hW => ?_)
  obtain ⟨M4, hM4, hf⟩ := rd_k_el hf
  rw [← hM4] at hW
  obtain rfl := Option.some.inj hf
  exact rd_vret C9 hlk hret hW ⟨rfl, rfl⟩ (by decide) (by decide) d_N_endTransfer_19
def f_N_answer (M : rd_M) (p1 : Int32) (p2 : Int32) (p3 : Int32) : Option (Int32 × rd_M) :=
  (f_N_in M p1 0 3).bind fun r1 =>
  if r1 = 0 then
    (f_N_fail M 1).bind fun r3 =>
    some (r3.1, r3.2)
  else
    (f_N_in M p2 0 9).bind fun r4 =>
    if r4 = 0 then
      (f_N_fail M 1).bind fun r65 =>
      some (r65.1, r65.2)
    else
      (f_N_noDomain M p2).bind fun r6 =>
      if r6 = 0 then
        if rd_in p2 10 then
        if 0 ≤ ((M 16).1 p2.toNatClampNeg) then
          if rd_in p2 10 then
          if p1 = ((M 10).1 p2.toNatClampNeg) then
            if p3 = 0 then
              if p3 = 0 then
                (f_N_endTransfer M p2).bind fun r15 =>
                rd_k (if p3 = 0 then 0 else 1 : Int32) fun z17 =>
                (f_N_give r15 z17).bind fun r18 =>
                some (r18.1, r18.2)
              else
                (f_N_handOver M p2).bind fun r19 =>
                rd_k (if p3 = 0 then 0 else 1 : Int32) fun z21 =>
                (f_N_give r19 z21).bind fun r22 =>
                some (r22.1, r22.2)
            else
              if rd_in p2 10 then
              (f_N_canPay M ((M 16).1 p2.toNatClampNeg) 2 1).bind fun r24 =>
              if r24 = 0 then
                (f_N_fail M 4).bind fun r35 =>
                some (r35.1, r35.2)
              else
                if p3 = 0 then
                  (f_N_endTransfer M p2).bind fun r27 =>
                  rd_k (if p3 = 0 then 0 else 1 : Int32) fun z29 =>
                  (f_N_give r27 z29).bind fun r30 =>
                  some (r30.1, r30.2)
                else
                  (f_N_handOver M p2).bind fun r31 =>
                  rd_k (if p3 = 0 then 0 else 1 : Int32) fun z33 =>
                  (f_N_give r31 z33).bind fun r34 =>
                  some (r34.1, r34.2)
              else none
          else
            if p3 = 0 then
              if rd_in p2 10 then
              if p1 = ((M 16).1 p2.toNatClampNeg) then
                if p3 = 0 then
                  if p3 = 0 then
                    (f_N_endTransfer M p2).bind fun r42 =>
                    rd_k (if p3 = 0 then 0 else 1 : Int32) fun z44 =>
                    (f_N_give r42 z44).bind fun r45 =>
                    some (r45.1, r45.2)
                  else
                    (f_N_handOver M p2).bind fun r46 =>
                    rd_k (if p3 = 0 then 0 else 1 : Int32) fun z48 =>
                    (f_N_give r46 z48).bind fun r49 =>
                    some (r49.1, r49.2)
                else
                  if rd_in p2 10 then
                  (f_N_canPay M ((M 16).1 p2.toNatClampNeg) 2 1).bind fun r51 =>
                  if r51 = 0 then
                    (f_N_fail M 4).bind fun r62 =>
                    some (r62.1, r62.2)
                  else
                    if p3 = 0 then
                      (f_N_endTransfer M p2).bind fun r54 =>
                      rd_k (if p3 = 0 then 0 else 1 : Int32) fun z56 =>
                      (f_N_give r54 z56).bind fun r57 =>
                      some (r57.1, r57.2)
                    else
                      (f_N_handOver M p2).bind fun r58 =>
                      rd_k (if p3 = 0 then 0 else 1 : Int32) fun z60 =>
                      (f_N_give r58 z60).bind fun r61 =>
                      some (r61.1, r61.2)
                  else none
              else
                (f_N_fail M 3).bind fun r63 =>
                some (r63.1, r63.2)
              else none
            else
              (f_N_fail M 3).bind fun r37 =>
              some (r37.1, r37.2)
          else none
        else
          (f_N_fail M 2).bind fun r64 =>
          some (r64.1, r64.2)
        else none
      else
        (f_N_fail M 2).bind fun r8 =>
        some (r8.1, r8.2)
set_option maxRecDepth 100000 in
set_option maxHeartbeats 4000000 in
theorem c_N_answer {l : Launch} (hls : l.stackTraces = false) {D : va_G} {Ka : Nat → ClassId} {ad : Nat → Nat} {M : rd_M} (p1 : Int32) (p2 : Int32) (p3 : Int32)  {o : Int32 × rd_M} (hf : f_N_answer M p1 p2 p3 = some o) :
    rd_Met l y_N_answer b_N_answer 4 (some .int) (3, 76, 0, 0) rd_T rd_ss D rd_cl (rd_ty Ka) (rm_L Ka) ad M [.ref (ad 0), .int p1, .int p2, .int p3] (fun r M1 => r = some (.int o.1) ∧ o.2 = M1) (fun _ => False) := by
  refine rd_body (by decide) (Nat.le_of_ble_eq_true rfl) ?_
  intro p e s m below meth c C9 hlk hret hnt hTh hW ls hl
  have hx := C9.1.1
  have hb := C9.1.2.1
  have hl : lv_has ls 4 [(0, .ref (ad 0)), (1, .int p1), (2, .int p2), (3, .int p3)] := hl
  unfold f_N_answer at hf
  refine lv_iload_n hx hb d_N_answer_0 rfl (lv_at hl 1 rfl) ?_
  refine lv_iconst (v := 0) hx hb d_N_answer_1 (by decide) ?_
  refine lv_iconst (v := 3) hx hb d_N_answer_2 (by decide) ?_
  obtain ⟨r1, qr1, hf⟩ := rd_bind hf
  refine rd_callS (As := [.int p1, .int 0, .int 3]) (rest := []) rd_gd C9 hTh hW (c_N_in hls p1 0 3 qr1) kc_N_in ki_N_in l_N_116 rfl ⟨Nat.le_of_ble_eq_true rfl, Nat.le_of_ble_eq_true rfl⟩ ⟨Nat.le_of_ble_eq_true rfl, Nat.le_of_ble_eq_true rfl⟩ hl.1 rfl (Nat.le_of_ble_eq_true rfl) d_N_answer_3 (fun E _ _ _ _ hex => hex.elim) (fun rr MM H locs hp hW => ?_)
  obtain ⟨rfl, rfl⟩ := hp
  refine lv_if_eq (tgt := 19) hx hb d_N_answer_6 (by decide) (fun c2 => ?_) (fun c2 => ?_)
  · have hf := rd_t hf c2
    refine lv_aload_n hx hb d_N_answer_19 rfl (lv_at hl 0 rfl) ?_
    refine lv_iconst (v := 1) hx hb d_N_answer_20 (by decide) ?_
    obtain ⟨r3, qr3, hf⟩ := rd_bind hf
    refine rd_callV (As := [.int 1]) (rest := []) rd_gd C9 hTh hW (c_N_fail hls 1 qr3) kc_N_fail ki_N_fail ks_N_fail l_N_122 rfl (lt_N) (ce_N) rfl ⟨Nat.le_of_ble_eq_true rfl, Nat.le_of_ble_eq_true rfl⟩ ⟨Nat.le_of_ble_eq_true rfl, Nat.le_of_ble_eq_true rfl⟩ hl.1 rfl (Nat.le_of_ble_eq_true rfl) d_N_answer_21 (fun E _ _ _ _ hex => hex.elim) (fun rr MM H locs hp hW => ?_)
    obtain ⟨rfl, rfl⟩ := hp
    obtain rfl := Option.some.inj hf
    exact rd_iret C9 hlk hret hW ⟨rfl, rfl⟩ (by decide) (by decide) d_N_answer_24
  · have hf := rd_f hf c2
    refine lv_iload_n hx hb d_N_answer_9 rfl (lv_at hl 2 rfl) ?_
    refine lv_iconst (v := 0) hx hb d_N_answer_10 (by decide) ?_
    refine lv_bipush (v := 9) hx hb d_N_answer_11 (by decide) ?_
    obtain ⟨r4, qr4, hf⟩ := rd_bind hf
    refine rd_callS (As := [.int p2, .int 0, .int 9]) (rest := []) rd_gd C9 hTh hW (c_N_in hls p2 0 9 qr4) kc_N_in ki_N_in l_N_116 rfl ⟨Nat.le_of_ble_eq_true rfl, Nat.le_of_ble_eq_true rfl⟩ ⟨Nat.le_of_ble_eq_true rfl, Nat.le_of_ble_eq_true rfl⟩ hl.1 rfl (Nat.le_of_ble_eq_true rfl) d_N_answer_13 (fun E _ _ _ _ hex => hex.elim) (fun rr MM H locs hp hW => ?_)
    obtain ⟨rfl, rfl⟩ := hp
    refine lv_if_ne (tgt := 25) hx hb d_N_answer_16 (by decide) (fun c5 => ?_) (fun c5 => ?_)
    · have hf := rd_f hf c5
      refine lv_aload_n hx hb d_N_answer_25 rfl (lv_at hl 0 rfl) ?_
      refine lv_iload_n hx hb d_N_answer_26 rfl (lv_at hl 2 rfl) ?_
      obtain ⟨r6, qr6, hf⟩ := rd_bind hf
      refine rd_callV (As := [.int p2]) (rest := []) rd_gd C9 hTh hW (c_N_noDomain hls p2 qr6) kc_N_noDomain ki_N_noDomain ks_N_noDomain l_N_133 rfl (lt_N) (ce_N) rfl ⟨Nat.le_of_ble_eq_true rfl, Nat.le_of_ble_eq_true rfl⟩ ⟨Nat.le_of_ble_eq_true rfl, Nat.le_of_ble_eq_true rfl⟩ hl.1 rfl (Nat.le_of_ble_eq_true rfl) d_N_answer_27 (fun E _ _ _ _ hex => hex.elim) (fun rr MM H locs hp hW => ?_)
      obtain ⟨rfl, rfl⟩ := hp
      refine lv_if_ne (tgt := 42) hx hb d_N_answer_30 (by decide) (fun c7 => ?_) (fun c7 => ?_)
      · have hf := rd_f hf c7
        refine lv_aload_n hx hb d_N_answer_42 rfl (lv_at hl 0 rfl) ?_
        refine lv_iconst (v := 2) hx hb d_N_answer_43 (by decide) ?_
        obtain ⟨r8, qr8, hf⟩ := rd_bind hf
        refine rd_callV (As := [.int 2]) (rest := []) rd_gd C9 hTh hW (c_N_fail hls 2 qr8) kc_N_fail ki_N_fail ks_N_fail l_N_122 rfl (lt_N) (ce_N) rfl ⟨Nat.le_of_ble_eq_true rfl, Nat.le_of_ble_eq_true rfl⟩ ⟨Nat.le_of_ble_eq_true rfl, Nat.le_of_ble_eq_true rfl⟩ hl.1 rfl (Nat.le_of_ble_eq_true rfl) d_N_answer_44 (fun E _ _ _ _ hex => hex.elim) (fun rr MM H locs hp hW => ?_)
        obtain ⟨rfl, rfl⟩ := hp
        obtain rfl := Option.some.inj hf
        exact rd_iret C9 hlk hret hW ⟨rfl, rfl⟩ (by decide) (by decide) d_N_answer_47
      · have hf := rd_t hf c7
        refine lv_aload_n hx hb d_N_answer_33 rfl (lv_at hl 0 rfl) ?_
        refine gf_N_wants C9 hW l_N_58 d_N_answer_34 ?_
        refine lv_iload_n hx hb d_N_answer_37 rfl (lv_at hl 2 rfl) ?_
        obtain ⟨g9, hf⟩ := rd_g hf
        refine al_m_wants C9 hW rfl g9 d_N_answer_38 ?_
        refine lv_if_ge (tgt := 48) hx hb d_N_answer_39 (by decide) (fun c10 => ?_) (fun c10 => ?_)
        · have hf := rd_t hf c10
          refine lv_iload_n hx hb d_N_answer_48 rfl (lv_at hl 1 rfl) ?_
          refine lv_aload_n hx hb d_N_answer_49 rfl (lv_at hl 0 rfl) ?_
          refine gf_N_owner C9 hW l_N_40 d_N_answer_50 ?_
          refine lv_iload_n hx hb d_N_answer_53 rfl (lv_at hl 2 rfl) ?_
          obtain ⟨g11, hf⟩ := rd_g hf
          refine al_m_owner C9 hW rfl g11 d_N_answer_54 ?_
          refine lv_icmp_eq (tgt := 78) hx hb d_N_answer_55 (by decide) (fun c12 => ?_) (fun c12 => ?_)
          · have hf := rd_t hf c12
            refine lv_iload_n hx hb d_N_answer_78 rfl (lv_at hl 3 rfl) ?_
            refine lv_if_eq (tgt := 103) hx hb d_N_answer_79 (by decide) (fun c13 => ?_) (fun c13 => ?_)
            · have hf := rd_t hf c13
              refine lv_iload_n hx hb d_N_answer_103 rfl (lv_at hl 3 rfl) ?_
              refine lv_if_eq (tgt := 115) hx hb d_N_answer_104 (by decide) (fun c14 => ?_) (fun c14 => ?_)
              · have hf := rd_t hf c14
                refine lv_aload_n hx hb d_N_answer_115 rfl (lv_at hl 0 rfl) ?_
                refine lv_iload_n hx hb d_N_answer_116 rfl (lv_at hl 2 rfl) ?_
                obtain ⟨r15, qr15, hf⟩ := rd_bind hf
                refine rd_callV (As := [.int p2]) (rest := []) rd_gd C9 hTh hW (c_N_endTransfer hls p2 qr15) kc_N_endTransfer ki_N_endTransfer ks_N_endTransfer l_N_177 rfl (lt_N) (ce_N) rfl ⟨Nat.le_of_ble_eq_true rfl, Nat.le_of_ble_eq_true rfl⟩ ⟨Nat.le_of_ble_eq_true rfl, Nat.le_of_ble_eq_true rfl⟩ hl.1 rfl (Nat.le_of_ble_eq_true rfl) d_N_answer_117 (fun E _ _ _ _ hex => hex.elim) (fun rr MM H locs hp hW => ?_)
                obtain ⟨rfl, rfl⟩ := hp
                refine lv_aload_n hx hb d_N_answer_120 rfl (lv_at hl 0 rfl) ?_
                refine lv_iload_n hx hb d_N_answer_121 rfl (lv_at hl 3 rfl) ?_
                obtain ⟨z17, hz17, hf⟩ := rd_k_el hf
                refine rd_sel z17 (fun z => F0 m 130 ls (.int z :: [.ref (ad 0)])) hz17 (fun hJ => ?_) ?_
                · refine lv_if_eq (tgt := 129) hx hb d_N_answer_122 (by decide) (fun c16 => ?_) (fun c16 => ?_)
                  · have hJ := rd_selt (g := (fun z => F0 m 130 ls (.int z :: [.ref (ad 0)]))) hJ c16
                    refine lv_iconst (v := 0) hx hb d_N_answer_129 (by decide) ?_
                    exact hJ
                  · have hJ := rd_self (g := (fun z => F0 m 130 ls (.int z :: [.ref (ad 0)]))) hJ c16
                    refine lv_iconst (v := 1) hx hb d_N_answer_125 (by decide) ?_
                    refine lv_goto (tgt := 130) hx hb d_N_answer_126 (by decide) ?_
                    exact hJ
                obtain ⟨r18, qr18, hf⟩ := rd_bind hf
                refine rd_callV (As := [.int z17]) (rest := []) rd_gd C9 hTh hW (c_N_give hls z17 qr18) kc_N_give ki_N_give ks_N_give l_N_126 rfl (lt_N) (ce_N) rfl ⟨Nat.le_of_ble_eq_true rfl, Nat.le_of_ble_eq_true rfl⟩ ⟨Nat.le_of_ble_eq_true rfl, Nat.le_of_ble_eq_true rfl⟩ hl.1 rfl (Nat.le_of_ble_eq_true rfl) d_N_answer_130 (fun E _ _ _ _ hex => hex.elim) (fun rr MM H locs hp hW => ?_)
                obtain ⟨rfl, rfl⟩ := hp
                obtain rfl := Option.some.inj hf
                exact rd_iret C9 hlk hret hW ⟨rfl, rfl⟩ (by decide) (by decide) d_N_answer_133
              · have hf := rd_f hf c14
                refine lv_aload_n hx hb d_N_answer_107 rfl (lv_at hl 0 rfl) ?_
                refine lv_iload_n hx hb d_N_answer_108 rfl (lv_at hl 2 rfl) ?_
                obtain ⟨r19, qr19, hf⟩ := rd_bind hf
                refine rd_callV (As := [.int p2]) (rest := []) rd_gd C9 hTh hW (c_N_handOver hls p2 qr19) kc_N_handOver ki_N_handOver ks_N_handOver l_N_174 rfl (lt_N) (ce_N) rfl ⟨Nat.le_of_ble_eq_true rfl, Nat.le_of_ble_eq_true rfl⟩ ⟨Nat.le_of_ble_eq_true rfl, Nat.le_of_ble_eq_true rfl⟩ hl.1 rfl (Nat.le_of_ble_eq_true rfl) d_N_answer_109 (fun E _ _ _ _ hex => hex.elim) (fun rr MM H locs hp hW => ?_)
                obtain ⟨rfl, rfl⟩ := hp
                refine lv_goto (tgt := 120) hx hb d_N_answer_112 (by decide) ?_
                refine lv_aload_n hx hb d_N_answer_120 rfl (lv_at hl 0 rfl) ?_
                refine lv_iload_n hx hb d_N_answer_121 rfl (lv_at hl 3 rfl) ?_
                obtain ⟨z21, hz21, hf⟩ := rd_k_el hf
                refine rd_sel z21 (fun z => F0 m 130 ls (.int z :: [.ref (ad 0)])) hz21 (fun hJ => ?_) ?_
                · refine lv_if_eq (tgt := 129) hx hb d_N_answer_122 (by decide) (fun c20 => ?_) (fun c20 => ?_)
                  · have hJ := rd_selt (g := (fun z => F0 m 130 ls (.int z :: [.ref (ad 0)]))) hJ c20
                    refine lv_iconst (v := 0) hx hb d_N_answer_129 (by decide) ?_
                    exact hJ
                  · have hJ := rd_self (g := (fun z => F0 m 130 ls (.int z :: [.ref (ad 0)]))) hJ c20
                    refine lv_iconst (v := 1) hx hb d_N_answer_125 (by decide) ?_
                    refine lv_goto (tgt := 130) hx hb d_N_answer_126 (by decide) ?_
                    exact hJ
                obtain ⟨r22, qr22, hf⟩ := rd_bind hf
                refine rd_callV (As := [.int z21]) (rest := []) rd_gd C9 hTh hW (c_N_give hls z21 qr22) kc_N_give ki_N_give ks_N_give l_N_126 rfl (lt_N) (ce_N) rfl ⟨Nat.le_of_ble_eq_true rfl, Nat.le_of_ble_eq_true rfl⟩ ⟨Nat.le_of_ble_eq_true rfl, Nat.le_of_ble_eq_true rfl⟩ hl.1 rfl (Nat.le_of_ble_eq_true rfl) d_N_answer_130 (fun E _ _ _ _ hex => hex.elim) (fun rr MM H locs hp hW => ?_)
                obtain ⟨rfl, rfl⟩ := hp
                obtain rfl := Option.some.inj hf
                exact rd_iret C9 hlk hret hW ⟨rfl, rfl⟩ (by decide) (by decide) d_N_answer_133
            · have hf := rd_f hf c13
              refine lv_aload_n hx hb d_N_answer_82 rfl (lv_at hl 0 rfl) ?_
              refine lv_aload_n hx hb d_N_answer_83 rfl (lv_at hl 0 rfl) ?_
              refine gf_N_wants C9 hW l_N_58 d_N_answer_84 ?_
              refine lv_iload_n hx hb d_N_answer_87 rfl (lv_at hl 2 rfl) ?_
              obtain ⟨g23, hf⟩ := rd_g hf
              refine al_m_wants C9 hW rfl g23 d_N_answer_88 ?_
              refine lv_iconst (v := 2) hx hb d_N_answer_89 (by decide) ?_
              refine lv_iconst (v := 1) hx hb d_N_answer_90 (by decide) ?_
              obtain ⟨r24, qr24, hf⟩ := rd_bind hf
              refine rd_callV (As := [.int ((M 16).1 p2.toNatClampNeg), .int 2, .int 1]) (rest := []) rd_gd C9 hTh hW (c_N_canPay hls ((M 16).1 p2.toNatClampNeg) 2 1 qr24) kc_N_canPay ki_N_canPay ks_N_canPay l_N_148 rfl (lt_N) (ce_N) rfl ⟨Nat.le_of_ble_eq_true rfl, Nat.le_of_ble_eq_true rfl⟩ ⟨Nat.le_of_ble_eq_true rfl, Nat.le_of_ble_eq_true rfl⟩ hl.1 rfl (Nat.le_of_ble_eq_true rfl) d_N_answer_91 (fun E _ _ _ _ hex => hex.elim) (fun rr MM H locs hp hW => ?_)
              obtain ⟨rfl, rfl⟩ := hp
              refine lv_if_ne (tgt := 103) hx hb d_N_answer_94 (by decide) (fun c25 => ?_) (fun c25 => ?_)
              · have hf := rd_f hf c25
                refine lv_iload_n hx hb d_N_answer_103 rfl (lv_at hl 3 rfl) ?_
                refine lv_if_eq (tgt := 115) hx hb d_N_answer_104 (by decide) (fun c26 => ?_) (fun c26 => ?_)
                · have hf := rd_t hf c26
                  refine lv_aload_n hx hb d_N_answer_115 rfl (lv_at hl 0 rfl) ?_
                  refine lv_iload_n hx hb d_N_answer_116 rfl (lv_at hl 2 rfl) ?_
                  obtain ⟨r27, qr27, hf⟩ := rd_bind hf
                  refine rd_callV (As := [.int p2]) (rest := []) rd_gd C9 hTh hW (c_N_endTransfer hls p2 qr27) kc_N_endTransfer ki_N_endTransfer ks_N_endTransfer l_N_177 rfl (lt_N) (ce_N) rfl ⟨Nat.le_of_ble_eq_true rfl, Nat.le_of_ble_eq_true rfl⟩ ⟨Nat.le_of_ble_eq_true rfl, Nat.le_of_ble_eq_true rfl⟩ hl.1 rfl (Nat.le_of_ble_eq_true rfl) d_N_answer_117 (fun E _ _ _ _ hex => hex.elim) (fun rr MM H locs hp hW => ?_)
                  obtain ⟨rfl, rfl⟩ := hp
                  refine lv_aload_n hx hb d_N_answer_120 rfl (lv_at hl 0 rfl) ?_
                  refine lv_iload_n hx hb d_N_answer_121 rfl (lv_at hl 3 rfl) ?_
                  obtain ⟨z29, hz29, hf⟩ := rd_k_el hf
                  refine rd_sel z29 (fun z => F0 m 130 ls (.int z :: [.ref (ad 0)])) hz29 (fun hJ => ?_) ?_
                  · refine lv_if_eq (tgt := 129) hx hb d_N_answer_122 (by decide) (fun c28 => ?_) (fun c28 => ?_)
                    · have hJ := rd_selt (g := (fun z => F0 m 130 ls (.int z :: [.ref (ad 0)]))) hJ c28
                      refine lv_iconst (v := 0) hx hb d_N_answer_129 (by decide) ?_
                      exact hJ
                    · have hJ := rd_self (g := (fun z => F0 m 130 ls (.int z :: [.ref (ad 0)]))) hJ c28
                      refine lv_iconst (v := 1) hx hb d_N_answer_125 (by decide) ?_
                      refine lv_goto (tgt := 130) hx hb d_N_answer_126 (by decide) ?_
                      exact hJ
                  obtain ⟨r30, qr30, hf⟩ := rd_bind hf
                  refine rd_callV (As := [.int z29]) (rest := []) rd_gd C9 hTh hW (c_N_give hls z29 qr30) kc_N_give ki_N_give ks_N_give l_N_126 rfl (lt_N) (ce_N) rfl ⟨Nat.le_of_ble_eq_true rfl, Nat.le_of_ble_eq_true rfl⟩ ⟨Nat.le_of_ble_eq_true rfl, Nat.le_of_ble_eq_true rfl⟩ hl.1 rfl (Nat.le_of_ble_eq_true rfl) d_N_answer_130 (fun E _ _ _ _ hex => hex.elim) (fun rr MM H locs hp hW => ?_)
                  obtain ⟨rfl, rfl⟩ := hp
                  obtain rfl := Option.some.inj hf
                  exact rd_iret C9 hlk hret hW ⟨rfl, rfl⟩ (by decide) (by decide) d_N_answer_133
                · have hf := rd_f hf c26
                  refine lv_aload_n hx hb d_N_answer_107 rfl (lv_at hl 0 rfl) ?_
                  refine lv_iload_n hx hb d_N_answer_108 rfl (lv_at hl 2 rfl) ?_
                  obtain ⟨r31, qr31, hf⟩ := rd_bind hf
                  refine rd_callV (As := [.int p2]) (rest := []) rd_gd C9 hTh hW (c_N_handOver hls p2 qr31) kc_N_handOver ki_N_handOver ks_N_handOver l_N_174 rfl (lt_N) (ce_N) rfl ⟨Nat.le_of_ble_eq_true rfl, Nat.le_of_ble_eq_true rfl⟩ ⟨Nat.le_of_ble_eq_true rfl, Nat.le_of_ble_eq_true rfl⟩ hl.1 rfl (Nat.le_of_ble_eq_true rfl) d_N_answer_109 (fun E _ _ _ _ hex => hex.elim) (fun rr MM H locs hp hW => ?_)
                  obtain ⟨rfl, rfl⟩ := hp
                  refine lv_goto (tgt := 120) hx hb d_N_answer_112 (by decide) ?_
                  refine lv_aload_n hx hb d_N_answer_120 rfl (lv_at hl 0 rfl) ?_
                  refine lv_iload_n hx hb d_N_answer_121 rfl (lv_at hl 3 rfl) ?_
                  obtain ⟨z33, hz33, hf⟩ := rd_k_el hf
                  refine rd_sel z33 (fun z => F0 m 130 ls (.int z :: [.ref (ad 0)])) hz33 (fun hJ => ?_) ?_
                  · refine lv_if_eq (tgt := 129) hx hb d_N_answer_122 (by decide) (fun c32 => ?_) (fun c32 => ?_)
                    · have hJ := rd_selt (g := (fun z => F0 m 130 ls (.int z :: [.ref (ad 0)]))) hJ c32
                      refine lv_iconst (v := 0) hx hb d_N_answer_129 (by decide) ?_
                      exact hJ
                    · have hJ := rd_self (g := (fun z => F0 m 130 ls (.int z :: [.ref (ad 0)]))) hJ c32
                      refine lv_iconst (v := 1) hx hb d_N_answer_125 (by decide) ?_
                      refine lv_goto (tgt := 130) hx hb d_N_answer_126 (by decide) ?_
                      exact hJ
                  obtain ⟨r34, qr34, hf⟩ := rd_bind hf
                  refine rd_callV (As := [.int z33]) (rest := []) rd_gd C9 hTh hW (c_N_give hls z33 qr34) kc_N_give ki_N_give ks_N_give l_N_126 rfl (lt_N) (ce_N) rfl ⟨Nat.le_of_ble_eq_true rfl, Nat.le_of_ble_eq_true rfl⟩ ⟨Nat.le_of_ble_eq_true rfl, Nat.le_of_ble_eq_true rfl⟩ hl.1 rfl (Nat.le_of_ble_eq_true rfl) d_N_answer_130 (fun E _ _ _ _ hex => hex.elim) (fun rr MM H locs hp hW => ?_)
                  obtain ⟨rfl, rfl⟩ := hp
                  obtain rfl := Option.some.inj hf
                  exact rd_iret C9 hlk hret hW ⟨rfl, rfl⟩ (by decide) (by decide) d_N_answer_133
              · have hf := rd_t hf c25
                refine lv_aload_n hx hb d_N_answer_97 rfl (lv_at hl 0 rfl) ?_
                refine lv_iconst (v := 4) hx hb d_N_answer_98 (by decide) ?_
                obtain ⟨r35, qr35, hf⟩ := rd_bind hf
                refine rd_callV (As := [.int 4]) (rest := []) rd_gd C9 hTh hW (c_N_fail hls 4 qr35) kc_N_fail ki_N_fail ks_N_fail l_N_122 rfl (lt_N) (ce_N) rfl ⟨Nat.le_of_ble_eq_true rfl, Nat.le_of_ble_eq_true rfl⟩ ⟨Nat.le_of_ble_eq_true rfl, Nat.le_of_ble_eq_true rfl⟩ hl.1 rfl (Nat.le_of_ble_eq_true rfl) d_N_answer_99 (fun E _ _ _ _ hex => hex.elim) (fun rr MM H locs hp hW => ?_)
                obtain ⟨rfl, rfl⟩ := hp
                obtain rfl := Option.some.inj hf
                exact rd_iret C9 hlk hret hW ⟨rfl, rfl⟩ (by decide) (by decide) d_N_answer_102
          · have hf := rd_f hf c12
            refine lv_iload_n hx hb d_N_answer_58 rfl (lv_at hl 3 rfl) ?_
            refine lv_if_ne (tgt := 72) hx hb d_N_answer_59 (by decide) (fun c36 => ?_) (fun c36 => ?_)
            · have hf := rd_f hf c36
              refine lv_aload_n hx hb d_N_answer_72 rfl (lv_at hl 0 rfl) ?_
              refine lv_iconst (v := 3) hx hb d_N_answer_73 (by decide) ?_
              obtain ⟨r37, qr37, hf⟩ := rd_bind hf
              refine rd_callV (As := [.int 3]) (rest := []) rd_gd C9 hTh hW (c_N_fail hls 3 qr37) kc_N_fail ki_N_fail ks_N_fail l_N_122 rfl (lt_N) (ce_N) rfl ⟨Nat.le_of_ble_eq_true rfl, Nat.le_of_ble_eq_true rfl⟩ ⟨Nat.le_of_ble_eq_true rfl, Nat.le_of_ble_eq_true rfl⟩ hl.1 rfl (Nat.le_of_ble_eq_true rfl) d_N_answer_74 (fun E _ _ _ _ hex => hex.elim) (fun rr MM H locs hp hW => ?_)
              obtain ⟨rfl, rfl⟩ := hp
              obtain rfl := Option.some.inj hf
              exact rd_iret C9 hlk hret hW ⟨rfl, rfl⟩ (by decide) (by decide) d_N_answer_77
            · have hf := rd_t hf c36
              refine lv_iload_n hx hb d_N_answer_62 rfl (lv_at hl 1 rfl) ?_
              refine lv_aload_n hx hb d_N_answer_63 rfl (lv_at hl 0 rfl) ?_
              refine gf_N_wants C9 hW l_N_58 d_N_answer_64 ?_
              refine lv_iload_n hx hb d_N_answer_67 rfl (lv_at hl 2 rfl) ?_
              obtain ⟨g38, hf⟩ := rd_g hf
              refine al_m_wants C9 hW rfl g38 d_N_answer_68 ?_
              refine lv_icmp_eq (tgt := 78) hx hb d_N_answer_69 (by decide) (fun c39 => ?_) (fun c39 => ?_)
              · have hf := rd_t hf c39
                refine lv_iload_n hx hb d_N_answer_78 rfl (lv_at hl 3 rfl) ?_
                refine lv_if_eq (tgt := 103) hx hb d_N_answer_79 (by decide) (fun c40 => ?_) (fun c40 => ?_)
                · have hf := rd_t hf c40
                  refine lv_iload_n hx hb d_N_answer_103 rfl (lv_at hl 3 rfl) ?_
                  refine lv_if_eq (tgt := 115) hx hb d_N_answer_104 (by decide) (fun c41 => ?_) (fun c41 => ?_)
                  · have hf := rd_t hf c41
                    refine lv_aload_n hx hb d_N_answer_115 rfl (lv_at hl 0 rfl) ?_
                    refine lv_iload_n hx hb d_N_answer_116 rfl (lv_at hl 2 rfl) ?_
                    obtain ⟨r42, qr42, hf⟩ := rd_bind hf
                    refine rd_callV (As := [.int p2]) (rest := []) rd_gd C9 hTh hW (c_N_endTransfer hls p2 qr42) kc_N_endTransfer ki_N_endTransfer ks_N_endTransfer l_N_177 rfl (lt_N) (ce_N) rfl ⟨Nat.le_of_ble_eq_true rfl, Nat.le_of_ble_eq_true rfl⟩ ⟨Nat.le_of_ble_eq_true rfl, Nat.le_of_ble_eq_true rfl⟩ hl.1 rfl (Nat.le_of_ble_eq_true rfl) d_N_answer_117 (fun E _ _ _ _ hex => hex.elim) (fun rr MM H locs hp hW => ?_)
                    obtain ⟨rfl, rfl⟩ := hp
                    refine lv_aload_n hx hb d_N_answer_120 rfl (lv_at hl 0 rfl) ?_
                    refine lv_iload_n hx hb d_N_answer_121 rfl (lv_at hl 3 rfl) ?_
                    obtain ⟨z44, hz44, hf⟩ := rd_k_el hf
                    refine rd_sel z44 (fun z => F0 m 130 ls (.int z :: [.ref (ad 0)])) hz44 (fun hJ => ?_) ?_
                    · refine lv_if_eq (tgt := 129) hx hb d_N_answer_122 (by decide) (fun c43 => ?_) (fun c43 => ?_)
                      · have hJ := rd_selt (g := (fun z => F0 m 130 ls (.int z :: [.ref (ad 0)]))) hJ c43
                        refine lv_iconst (v := 0) hx hb d_N_answer_129 (by decide) ?_
                        exact hJ
                      · have hJ := rd_self (g := (fun z => F0 m 130 ls (.int z :: [.ref (ad 0)]))) hJ c43
                        refine lv_iconst (v := 1) hx hb d_N_answer_125 (by decide) ?_
                        refine lv_goto (tgt := 130) hx hb d_N_answer_126 (by decide) ?_
                        exact hJ
                    obtain ⟨r45, qr45, hf⟩ := rd_bind hf
                    refine rd_callV (As := [.int z44]) (rest := []) rd_gd C9 hTh hW (c_N_give hls z44 qr45) kc_N_give ki_N_give ks_N_give l_N_126 rfl (lt_N) (ce_N) rfl ⟨Nat.le_of_ble_eq_true rfl, Nat.le_of_ble_eq_true rfl⟩ ⟨Nat.le_of_ble_eq_true rfl, Nat.le_of_ble_eq_true rfl⟩ hl.1 rfl (Nat.le_of_ble_eq_true rfl) d_N_answer_130 (fun E _ _ _ _ hex => hex.elim) (fun rr MM H locs hp hW => ?_)
                    obtain ⟨rfl, rfl⟩ := hp
                    obtain rfl := Option.some.inj hf
                    exact rd_iret C9 hlk hret hW ⟨rfl, rfl⟩ (by decide) (by decide) d_N_answer_133
                  · have hf := rd_f hf c41
                    refine lv_aload_n hx hb d_N_answer_107 rfl (lv_at hl 0 rfl) ?_
                    refine lv_iload_n hx hb d_N_answer_108 rfl (lv_at hl 2 rfl) ?_
                    obtain ⟨r46, qr46, hf⟩ := rd_bind hf
                    refine rd_callV (As := [.int p2]) (rest := []) rd_gd C9 hTh hW (c_N_handOver hls p2 qr46) kc_N_handOver ki_N_handOver ks_N_handOver l_N_174 rfl (lt_N) (ce_N) rfl ⟨Nat.le_of_ble_eq_true rfl, Nat.le_of_ble_eq_true rfl⟩ ⟨Nat.le_of_ble_eq_true rfl, Nat.le_of_ble_eq_true rfl⟩ hl.1 rfl (Nat.le_of_ble_eq_true rfl) d_N_answer_109 (fun E _ _ _ _ hex => hex.elim) (fun rr MM H locs hp hW => ?_)
                    obtain ⟨rfl, rfl⟩ := hp
                    refine lv_goto (tgt := 120) hx hb d_N_answer_112 (by decide) ?_
                    refine lv_aload_n hx hb d_N_answer_120 rfl (lv_at hl 0 rfl) ?_
                    refine lv_iload_n hx hb d_N_answer_121 rfl (lv_at hl 3 rfl) ?_
                    obtain ⟨z48, hz48, hf⟩ := rd_k_el hf
                    refine rd_sel z48 (fun z => F0 m 130 ls (.int z :: [.ref (ad 0)])) hz48 (fun hJ => ?_) ?_
                    · refine lv_if_eq (tgt := 129) hx hb d_N_answer_122 (by decide) (fun c47 => ?_) (fun c47 => ?_)
                      · have hJ := rd_selt (g := (fun z => F0 m 130 ls (.int z :: [.ref (ad 0)]))) hJ c47
                        refine lv_iconst (v := 0) hx hb d_N_answer_129 (by decide) ?_
                        exact hJ
                      · have hJ := rd_self (g := (fun z => F0 m 130 ls (.int z :: [.ref (ad 0)]))) hJ c47
                        refine lv_iconst (v := 1) hx hb d_N_answer_125 (by decide) ?_
                        refine lv_goto (tgt := 130) hx hb d_N_answer_126 (by decide) ?_
                        exact hJ
                    obtain ⟨r49, qr49, hf⟩ := rd_bind hf
                    refine rd_callV (As := [.int z48]) (rest := []) rd_gd C9 hTh hW (c_N_give hls z48 qr49) kc_N_give ki_N_give ks_N_give l_N_126 rfl (lt_N) (ce_N) rfl ⟨Nat.le_of_ble_eq_true rfl, Nat.le_of_ble_eq_true rfl⟩ ⟨Nat.le_of_ble_eq_true rfl, Nat.le_of_ble_eq_true rfl⟩ hl.1 rfl (Nat.le_of_ble_eq_true rfl) d_N_answer_130 (fun E _ _ _ _ hex => hex.elim) (fun rr MM H locs hp hW => ?_)
                    obtain ⟨rfl, rfl⟩ := hp
                    obtain rfl := Option.some.inj hf
                    exact rd_iret C9 hlk hret hW ⟨rfl, rfl⟩ (by decide) (by decide) d_N_answer_133
                · have hf := rd_f hf c40
                  refine lv_aload_n hx hb d_N_answer_82 rfl (lv_at hl 0 rfl) ?_
                  refine lv_aload_n hx hb d_N_answer_83 rfl (lv_at hl 0 rfl) ?_
                  refine gf_N_wants C9 hW l_N_58 d_N_answer_84 ?_
                  refine lv_iload_n hx hb d_N_answer_87 rfl (lv_at hl 2 rfl) ?_
                  obtain ⟨g50, hf⟩ := rd_g hf
                  refine al_m_wants C9 hW rfl g50 d_N_answer_88 ?_
                  refine lv_iconst (v := 2) hx hb d_N_answer_89 (by decide) ?_
                  refine lv_iconst (v := 1) hx hb d_N_answer_90 (by decide) ?_
                  obtain ⟨r51, qr51, hf⟩ := rd_bind hf
                  refine rd_callV (As := [.int ((M 16).1 p2.toNatClampNeg), .int 2, .int 1]) (rest := []) rd_gd C9 hTh hW (c_N_canPay hls ((M 16).1 p2.toNatClampNeg) 2 1 qr51) kc_N_canPay ki_N_canPay ks_N_canPay l_N_148 rfl (lt_N) (ce_N) rfl ⟨Nat.le_of_ble_eq_true rfl, Nat.le_of_ble_eq_true rfl⟩ ⟨Nat.le_of_ble_eq_true rfl, Nat.le_of_ble_eq_true rfl⟩ hl.1 rfl (Nat.le_of_ble_eq_true rfl) d_N_answer_91 (fun E _ _ _ _ hex => hex.elim) (fun rr MM H locs hp hW => ?_)
                  obtain ⟨rfl, rfl⟩ := hp
                  refine lv_if_ne (tgt := 103) hx hb d_N_answer_94 (by decide) (fun c52 => ?_) (fun c52 => ?_)
                  · have hf := rd_f hf c52
                    refine lv_iload_n hx hb d_N_answer_103 rfl (lv_at hl 3 rfl) ?_
                    refine lv_if_eq (tgt := 115) hx hb d_N_answer_104 (by decide) (fun c53 => ?_) (fun c53 => ?_)
                    · have hf := rd_t hf c53
                      refine lv_aload_n hx hb d_N_answer_115 rfl (lv_at hl 0 rfl) ?_
                      refine lv_iload_n hx hb d_N_answer_116 rfl (lv_at hl 2 rfl) ?_
                      obtain ⟨r54, qr54, hf⟩ := rd_bind hf
                      refine rd_callV (As := [.int p2]) (rest := []) rd_gd C9 hTh hW (c_N_endTransfer hls p2 qr54) kc_N_endTransfer ki_N_endTransfer ks_N_endTransfer l_N_177 rfl (lt_N) (ce_N) rfl ⟨Nat.le_of_ble_eq_true rfl, Nat.le_of_ble_eq_true rfl⟩ ⟨Nat.le_of_ble_eq_true rfl, Nat.le_of_ble_eq_true rfl⟩ hl.1 rfl (Nat.le_of_ble_eq_true rfl) d_N_answer_117 (fun E _ _ _ _ hex => hex.elim) (fun rr MM H locs hp hW => ?_)
                      obtain ⟨rfl, rfl⟩ := hp
                      refine lv_aload_n hx hb d_N_answer_120 rfl (lv_at hl 0 rfl) ?_
                      refine lv_iload_n hx hb d_N_answer_121 rfl (lv_at hl 3 rfl) ?_
                      obtain ⟨z56, hz56, hf⟩ := rd_k_el hf
                      refine rd_sel z56 (fun z => F0 m 130 ls (.int z :: [.ref (ad 0)])) hz56 (fun hJ => ?_) ?_
                      · refine lv_if_eq (tgt := 129) hx hb d_N_answer_122 (by decide) (fun c55 => ?_) (fun c55 => ?_)
                        · have hJ := rd_selt (g := (fun z => F0 m 130 ls (.int z :: [.ref (ad 0)]))) hJ c55
                          refine lv_iconst (v := 0) hx hb d_N_answer_129 (by decide) ?_
                          exact hJ
                        · have hJ := rd_self (g := (fun z => F0 m 130 ls (.int z :: [.ref (ad 0)]))) hJ c55
                          refine lv_iconst (v := 1) hx hb d_N_answer_125 (by decide) ?_
                          refine lv_goto (tgt := 130) hx hb d_N_answer_126 (by decide) ?_
                          exact hJ
                      obtain ⟨r57, qr57, hf⟩ := rd_bind hf
                      refine rd_callV (As := [.int z56]) (rest := []) rd_gd C9 hTh hW (c_N_give hls z56 qr57) kc_N_give ki_N_give ks_N_give l_N_126 rfl (lt_N) (ce_N) rfl ⟨Nat.le_of_ble_eq_true rfl, Nat.le_of_ble_eq_true rfl⟩ ⟨Nat.le_of_ble_eq_true rfl, Nat.le_of_ble_eq_true rfl⟩ hl.1 rfl (Nat.le_of_ble_eq_true rfl) d_N_answer_130 (fun E _ _ _ _ hex => hex.elim) (fun rr MM H locs hp hW => ?_)
                      obtain ⟨rfl, rfl⟩ := hp
                      obtain rfl := Option.some.inj hf
                      exact rd_iret C9 hlk hret hW ⟨rfl, rfl⟩ (by decide) (by decide) d_N_answer_133
                    · have hf := rd_f hf c53
                      refine lv_aload_n hx hb d_N_answer_107 rfl (lv_at hl 0 rfl) ?_
                      refine lv_iload_n hx hb d_N_answer_108 rfl (lv_at hl 2 rfl) ?_
                      obtain ⟨r58, qr58, hf⟩ := rd_bind hf
                      refine rd_callV (As := [.int p2]) (rest := []) rd_gd C9 hTh hW (c_N_handOver hls p2 qr58) kc_N_handOver ki_N_handOver ks_N_handOver l_N_174 rfl (lt_N) (ce_N) rfl ⟨Nat.le_of_ble_eq_true rfl, Nat.le_of_ble_eq_true rfl⟩ ⟨Nat.le_of_ble_eq_true rfl, Nat.le_of_ble_eq_true rfl⟩ hl.1 rfl (Nat.le_of_ble_eq_true rfl) d_N_answer_109 (fun E _ _ _ _ hex => hex.elim) (fun rr MM H locs hp hW => ?_)
                      obtain ⟨rfl, rfl⟩ := hp
                      refine lv_goto (tgt := 120) hx hb d_N_answer_112 (by decide) ?_
                      refine lv_aload_n hx hb d_N_answer_120 rfl (lv_at hl 0 rfl) ?_
                      refine lv_iload_n hx hb d_N_answer_121 rfl (lv_at hl 3 rfl) ?_
                      obtain ⟨z60, hz60, hf⟩ := rd_k_el hf
                      refine rd_sel z60 (fun z => F0 m 130 ls (.int z :: [.ref (ad 0)])) hz60 (fun hJ => ?_) ?_
                      · refine lv_if_eq (tgt := 129) hx hb d_N_answer_122 (by decide) (fun c59 => ?_) (fun c59 => ?_)
                        · have hJ := rd_selt (g := (fun z => F0 m 130 ls (.int z :: [.ref (ad 0)]))) hJ c59
                          refine lv_iconst (v := 0) hx hb d_N_answer_129 (by decide) ?_
                          exact hJ
                        · have hJ := rd_self (g := (fun z => F0 m 130 ls (.int z :: [.ref (ad 0)]))) hJ c59
                          refine lv_iconst (v := 1) hx hb d_N_answer_125 (by decide) ?_
                          refine lv_goto (tgt := 130) hx hb d_N_answer_126 (by decide) ?_
                          exact hJ
                      obtain ⟨r61, qr61, hf⟩ := rd_bind hf
                      refine rd_callV (As := [.int z60]) (rest := []) rd_gd C9 hTh hW (c_N_give hls z60 qr61) kc_N_give ki_N_give ks_N_give l_N_126 rfl (lt_N) (ce_N) rfl ⟨Nat.le_of_ble_eq_true rfl, Nat.le_of_ble_eq_true rfl⟩ ⟨Nat.le_of_ble_eq_true rfl, Nat.le_of_ble_eq_true rfl⟩ hl.1 rfl (Nat.le_of_ble_eq_true rfl) d_N_answer_130 (fun E _ _ _ _ hex => hex.elim) (fun rr MM H locs hp hW => ?_)
                      obtain ⟨rfl, rfl⟩ := hp
                      obtain rfl := Option.some.inj hf
                      exact rd_iret C9 hlk hret hW ⟨rfl, rfl⟩ (by decide) (by decide) d_N_answer_133
                  · have hf := rd_t hf c52
                    refine lv_aload_n hx hb d_N_answer_97 rfl (lv_at hl 0 rfl) ?_
                    refine lv_iconst (v := 4) hx hb d_N_answer_98 (by decide) ?_
                    obtain ⟨r62, qr62, hf⟩ := rd_bind hf
                    refine rd_callV (As := [.int 4]) (rest := []) rd_gd C9 hTh hW (c_N_fail hls 4 qr62) kc_N_fail ki_N_fail ks_N_fail l_N_122 rfl (lt_N) (ce_N) rfl ⟨Nat.le_of_ble_eq_true rfl, Nat.le_of_ble_eq_true rfl⟩ ⟨Nat.le_of_ble_eq_true rfl, Nat.le_of_ble_eq_true rfl⟩ hl.1 rfl (Nat.le_of_ble_eq_true rfl) d_N_answer_99 (fun E _ _ _ _ hex => hex.elim) (fun rr MM H locs hp hW => ?_)
                    obtain ⟨rfl, rfl⟩ := hp
                    obtain rfl := Option.some.inj hf
                    exact rd_iret C9 hlk hret hW ⟨rfl, rfl⟩ (by decide) (by decide) d_N_answer_102
              · have hf := rd_f hf c39
                refine lv_aload_n hx hb d_N_answer_72 rfl (lv_at hl 0 rfl) ?_
                refine lv_iconst (v := 3) hx hb d_N_answer_73 (by decide) ?_
                obtain ⟨r63, qr63, hf⟩ := rd_bind hf
                refine rd_callV (As := [.int 3]) (rest := []) rd_gd C9 hTh hW (c_N_fail hls 3 qr63) kc_N_fail ki_N_fail ks_N_fail l_N_122 rfl (lt_N) (ce_N) rfl ⟨Nat.le_of_ble_eq_true rfl, Nat.le_of_ble_eq_true rfl⟩ ⟨Nat.le_of_ble_eq_true rfl, Nat.le_of_ble_eq_true rfl⟩ hl.1 rfl (Nat.le_of_ble_eq_true rfl) d_N_answer_74 (fun E _ _ _ _ hex => hex.elim) (fun rr MM H locs hp hW => ?_)
                obtain ⟨rfl, rfl⟩ := hp
                obtain rfl := Option.some.inj hf
                exact rd_iret C9 hlk hret hW ⟨rfl, rfl⟩ (by decide) (by decide) d_N_answer_77
        · have hf := rd_f hf c10
          refine lv_aload_n hx hb d_N_answer_42 rfl (lv_at hl 0 rfl) ?_
          refine lv_iconst (v := 2) hx hb d_N_answer_43 (by decide) ?_
          obtain ⟨r64, qr64, hf⟩ := rd_bind hf
          refine rd_callV (As := [.int 2]) (rest := []) rd_gd C9 hTh hW (c_N_fail hls 2 qr64) kc_N_fail ki_N_fail ks_N_fail l_N_122 rfl (lt_N) (ce_N) rfl ⟨Nat.le_of_ble_eq_true rfl, Nat.le_of_ble_eq_true rfl⟩ ⟨Nat.le_of_ble_eq_true rfl, Nat.le_of_ble_eq_true rfl⟩ hl.1 rfl (Nat.le_of_ble_eq_true rfl) d_N_answer_44 (fun E _ _ _ _ hex => hex.elim) (fun rr MM H locs hp hW => ?_)
          obtain ⟨rfl, rfl⟩ := hp
          obtain rfl := Option.some.inj hf
          exact rd_iret C9 hlk hret hW ⟨rfl, rfl⟩ (by decide) (by decide) d_N_answer_47
    · have hf := rd_t hf c5
      refine lv_aload_n hx hb d_N_answer_19 rfl (lv_at hl 0 rfl) ?_
      refine lv_iconst (v := 1) hx hb d_N_answer_20 (by decide) ?_
      obtain ⟨r65, qr65, hf⟩ := rd_bind hf
      refine rd_callV (As := [.int 1]) (rest := []) rd_gd C9 hTh hW (c_N_fail hls 1 qr65) kc_N_fail ki_N_fail ks_N_fail l_N_122 rfl (lt_N) (ce_N) rfl ⟨Nat.le_of_ble_eq_true rfl, Nat.le_of_ble_eq_true rfl⟩ ⟨Nat.le_of_ble_eq_true rfl, Nat.le_of_ble_eq_true rfl⟩ hl.1 rfl (Nat.le_of_ble_eq_true rfl) d_N_answer_21 (fun E _ _ _ _ hex => hex.elim) (fun rr MM H locs hp hW => ?_)
      obtain ⟨rfl, rfl⟩ := hp
      obtain rfl := Option.some.inj hf
      exact rd_iret C9 hlk hret hW ⟨rfl, rfl⟩ (by decide) (by decide) d_N_answer_24
