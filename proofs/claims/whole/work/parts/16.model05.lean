def lb_N_neededElsewhere_2 (M : rd_M) (q1 : Int32) (Kf : Int32 → Option (Int32)) (rec : Int32 → Option (Int32)) (v2_2 : Int32) : Option (Int32) :=
  if ((M 0).1 9) ≤ v2_2 then
    Kf v2_2
  else
    if rd_in v2_2 8 then
    if ((M 7).1 v2_2.toNatClampNeg) < 0 then
      rec (v2_2 + 1)
    else
      if rd_in v2_2 8 then
      if ((M 9).1 v2_2.toNatClampNeg) = q1 then
        (f_N_placeOf M q1 1 v2_2).bind fun r6 =>
        rd_k (if r6 < 0 then 0 else 1 : Int32) fun z8 =>
        (f_N_users M 1 v2_2).bind fun r9 =>
        if r9 ≤ z8 then
          rec (v2_2 + 1)
        else
          some 1
      else
        rec (v2_2 + 1)
      else none
    else none
def f_N_neededElsewhere (M : rd_M) (p1 : Int32) : Option (Int32) :=
  rd_it (fun _ => none) (lb_N_neededElsewhere_2 M p1 (fun w2_2 =>
    some 0)) 64 0
set_option maxRecDepth 100000 in
set_option maxHeartbeats 4000000 in
theorem c_N_neededElsewhere {l : Launch} (hls : l.stackTraces = false) {D : va_G} {Ka : Nat → ClassId} {ad : Nat → Nat} {M : rd_M} (p1 : Int32)  {o : Int32} (hf : f_N_neededElsewhere M p1 = some o) :
    rd_Met l y_N_neededElsewhere b_N_neededElsewhere 4 (some .boolean) (2, 48, 0, 0) rd_T rd_ss D rd_cl (rd_ty Ka) (rm_L Ka) ad M [.ref (ad 0), .int p1] (fun r M1 => r = some (.int o) ∧ M = M1) (fun _ => False) := by
  refine rd_body (by decide) (Nat.le_of_ble_eq_true rfl) ?_
  intro p e s m below meth c C9 hlk hret hnt hTh hW ls hl
  have hx := C9.1.1
  have hb := C9.1.2.1
  have hl : lv_has ls 4 [(0, .ref (ad 0)), (1, .int p1)] := hl
  unfold f_N_neededElsewhere at hf
  refine lv_iconst (v := 0) hx hb d_N_neededElsewhere_0 (by decide) ?_
  refine lv_istore_n (lv' := [(2, .int 0), (0, .ref (ad 0)), (1, .int p1)]) hx hb d_N_neededElsewhere_1 rfl hl (by decide) rfl (fun ls hl => ?_)
  have loop_2 : ∀ (Kf : Int32 → Option (Int32)) (hk_2 : ∀ (w2_2 : Int32) (H : Heap) (locs : List Loc) (ls : Array Slot), Kf w2_2 = some o → rd_W D rd_cl (rm_L Ka) ad (rd_A (rm_L Ka) ad s.heap.size) s.heap M H locs → lv_has ls 4 [(2, .int w2_2), (0, .ref (ad 0)), (1, .int p1)] → W p l e { frames := 2, cells := 0, slots := 0, locals := 48 } s m [.ref (ad 0), .int p1].toArray below meth c H locs 0 0 (rd_Z below (rd_O D rd_cl (rm_L Ka) ad M (rd_A (rm_L Ka) ad s.heap.size) 0 0 (fun r M1 => r = some (.int o) ∧ M = M1) (fun _ => False)) s) (F0 m 66 ls [])) (fu : Nat) (v2_2 : Int32) (H : Heap) (locs : List Loc) (ls : Array Slot), rd_it (fun _ => none) (lb_N_neededElsewhere_2 M p1 Kf) fu v2_2 = some o → rd_W D rd_cl (rm_L Ka) ad (rd_A (rm_L Ka) ad s.heap.size) s.heap M H locs → lv_has ls 4 [(2, .int v2_2), (0, .ref (ad 0)), (1, .int p1)] → W p l e { frames := 2, cells := 0, slots := 0, locals := 48 } s m [.ref (ad 0), .int p1].toArray below meth c H locs 0 0 (rd_Z below (rd_O D rd_cl (rm_L Ka) ad M (rd_A (rm_L Ka) ad s.heap.size) 0 0 (fun r M1 => r = some (.int o) ∧ M = M1) (fun _ => False)) s) (F0 m 2 ls []) := by
    intro Kf hk_2 fu
    induction fu with
    | zero => intro _ H locs ls hf; exact (rd_nf hf).elim
    | succ fu ih_2 =>
      intro v2_2 H locs ls hf hW hl
      rw [rd_it_s] at hf
      unfold lb_N_neededElsewhere_2 at hf
      refine lv_iload_n hx hb d_N_neededElsewhere_2 rfl (lv_at hl 0 rfl) ?_
      refine lv_aload_n hx hb d_N_neededElsewhere_3 rfl (lv_at hl 1 rfl) ?_
      refine gf_N_hosts C9 hW l_N_85 d_N_neededElsewhere_4 ?_
      refine lv_icmp_ge (tgt := 66) hx hb d_N_neededElsewhere_7 (by decide) (fun c11 => ?_) (fun c11 => ?_)
      · have hf := rd_t hf c11
        exact hk_2 _ _ _ _ hf hW (lv_sub hl [0, 1, 2] rfl)
      · have hf := rd_f hf c11
        refine lv_aload_n hx hb d_N_neededElsewhere_10 rfl (lv_at hl 1 rfl) ?_
        refine gf_N_hostOwner C9 hW l_N_31 d_N_neededElsewhere_11 ?_
        refine lv_iload_n hx hb d_N_neededElsewhere_14 rfl (lv_at hl 0 rfl) ?_
        obtain ⟨g12, hf⟩ := rd_g hf
        refine al_m_hostOwner C9 hW rfl g12 d_N_neededElsewhere_15 ?_
        refine lv_if_lt (tgt := 60) hx hb d_N_neededElsewhere_16 (by decide) (fun c13 => ?_) (fun c13 => ?_)
        · have hf := rd_t hf c13
          refine lv_iinc (v := v2_2 + 1) (lv' := [(2, .int (v2_2 + 1)), (0, .ref (ad 0)), (1, .int p1)]) hx hb d_N_neededElsewhere_60 hl (k := 0) rfl rfl (by decide) rfl (fun ls hl => ?_)
          refine lv_goto (tgt := 2) hx hb d_N_neededElsewhere_63 (by decide) ?_
          exact ih_2 _ _ _ _ hf hW (lv_sub hl [0, 1, 2] rfl)
        · have hf := rd_f hf c13
          refine lv_aload_n hx hb d_N_neededElsewhere_19 rfl (lv_at hl 1 rfl) ?_
          refine gf_N_under C9 hW l_N_37 d_N_neededElsewhere_20 ?_
          refine lv_iload_n hx hb d_N_neededElsewhere_23 rfl (lv_at hl 0 rfl) ?_
          obtain ⟨g14, hf⟩ := rd_g hf
          refine al_m_under C9 hW rfl g14 d_N_neededElsewhere_24 ?_
          refine lv_iload_n hx hb d_N_neededElsewhere_25 rfl (lv_at hl 2 rfl) ?_
          refine lv_icmp_eq (tgt := 32) hx hb d_N_neededElsewhere_26 (by decide) (fun c15 => ?_) (fun c15 => ?_)
          · have hf := rd_t hf c15
            refine lv_aload_n hx hb d_N_neededElsewhere_32 rfl (lv_at hl 1 rfl) ?_
            refine lv_iload_n hx hb d_N_neededElsewhere_33 rfl (lv_at hl 2 rfl) ?_
            refine lv_iconst (v := 1) hx hb d_N_neededElsewhere_34 (by decide) ?_
            refine lv_iload_n hx hb d_N_neededElsewhere_35 rfl (lv_at hl 0 rfl) ?_
            obtain ⟨r16, qr16, hf⟩ := rd_bind hf
            refine rd_callV (As := [.int p1, .int 1, .int v2_2]) (rest := []) rd_gd C9 hTh hW (c_N_placeOf hls p1 1 v2_2 qr16) kc_N_placeOf ki_N_placeOf ks_N_placeOf l_N_105 rfl (lt_N) (ce_N) rfl ⟨Nat.le_of_ble_eq_true rfl, Nat.le_of_ble_eq_true rfl⟩ ⟨Nat.le_of_ble_eq_true rfl, Nat.le_of_ble_eq_true rfl⟩ hl.1 rfl (Nat.le_of_ble_eq_true rfl) d_N_neededElsewhere_36 (fun E _ _ _ _ hex => hex.elim) (fun rr MM H locs hp hW => ?_)
            obtain ⟨rfl, rfl⟩ := hp
            obtain ⟨z18, hz18, hf⟩ := rd_k_el hf
            refine rd_sel z18 (fun z => F0 m 47 ls (.int z :: [])) hz18 (fun hJ => ?_) ?_
            · refine lv_if_lt (tgt := 46) hx hb d_N_neededElsewhere_39 (by decide) (fun c17 => ?_) (fun c17 => ?_)
              · have hJ := rd_selt (g := (fun z => F0 m 47 ls (.int z :: []))) hJ c17
                refine lv_iconst (v := 0) hx hb d_N_neededElsewhere_46 (by decide) ?_
                exact hJ
              · have hJ := rd_self (g := (fun z => F0 m 47 ls (.int z :: []))) hJ c17
                refine lv_iconst (v := 1) hx hb d_N_neededElsewhere_42 (by decide) ?_
                refine lv_goto (tgt := 47) hx hb d_N_neededElsewhere_43 (by decide) ?_
                exact hJ
            refine lv_istore_n (lv' := [(3, .int z18), (2, .int v2_2), (0, .ref (ad 0)), (1, .int p1)]) hx hb d_N_neededElsewhere_47 rfl hl (by decide) rfl (fun ls hl => ?_)
            refine lv_aload_n hx hb d_N_neededElsewhere_48 rfl (lv_at hl 2 rfl) ?_
            refine lv_iconst (v := 1) hx hb d_N_neededElsewhere_49 (by decide) ?_
            refine lv_iload_n hx hb d_N_neededElsewhere_50 rfl (lv_at hl 1 rfl) ?_
            obtain ⟨r19, qr19, hf⟩ := rd_bind hf
            refine rd_callV (As := [.int 1, .int v2_2]) (rest := []) rd_gd C9 hTh hW (c_N_users hls 1 v2_2 qr19) kc_N_users ki_N_users ks_N_users l_N_141 rfl (lt_N) (ce_N) rfl ⟨Nat.le_of_ble_eq_true rfl, Nat.le_of_ble_eq_true rfl⟩ ⟨Nat.le_of_ble_eq_true rfl, Nat.le_of_ble_eq_true rfl⟩ hl.1 rfl (Nat.le_of_ble_eq_true rfl) d_N_neededElsewhere_51 (fun E _ _ _ _ hex => hex.elim) (fun rr MM H locs hp hW => ?_)
            obtain ⟨rfl, rfl⟩ := hp
            refine lv_iload_n hx hb d_N_neededElsewhere_54 rfl (lv_at hl 0 rfl) ?_
            refine lv_icmp_le (tgt := 60) hx hb d_N_neededElsewhere_55 (by decide) (fun c20 => ?_) (fun c20 => ?_)
            · have hf := rd_t hf c20
              refine lv_iinc (v := v2_2 + 1) (lv' := [(2, .int (v2_2 + 1)), (3, .int z18), (0, .ref (ad 0)), (1, .int p1)]) hx hb d_N_neededElsewhere_60 hl (k := 1) rfl rfl (by decide) rfl (fun ls hl => ?_)
              refine lv_goto (tgt := 2) hx hb d_N_neededElsewhere_63 (by decide) ?_
              exact ih_2 _ _ _ _ hf hW (lv_sub hl [0, 2, 3] rfl)
            · have hf := rd_f hf c20
              refine lv_iconst (v := 1) hx hb d_N_neededElsewhere_58 (by decide) ?_
              obtain rfl := Option.some.inj hf
              exact rd_zret C9 hlk hret hW (Or.inr rfl) ⟨rfl, rfl⟩ (by decide) (by decide) d_N_neededElsewhere_59
          · have hf := rd_f hf c15
            refine lv_goto (tgt := 60) hx hb d_N_neededElsewhere_29 (by decide) ?_
            refine lv_iinc (v := v2_2 + 1) (lv' := [(2, .int (v2_2 + 1)), (0, .ref (ad 0)), (1, .int p1)]) hx hb d_N_neededElsewhere_60 hl (k := 0) rfl rfl (by decide) rfl (fun ls hl => ?_)
            refine lv_goto (tgt := 2) hx hb d_N_neededElsewhere_63 (by decide) ?_
            exact ih_2 _ _ _ _ hf hW (lv_sub hl [0, 1, 2] rfl)
  refine loop_2 _ ?_ 64 _ _ _ _ hf hW (lv_sub hl [0, 1, 2] rfl)
  intro w2_2 H locs ls hf hW hl
  refine lv_iconst (v := 0) hx hb d_N_neededElsewhere_66 (by decide) ?_
  obtain rfl := Option.some.inj hf
  exact rd_zret C9 hlk hret hW (Or.inl rfl) ⟨rfl, rfl⟩ (by decide) (by decide) d_N_neededElsewhere_67
def lb_N_delete_70 (q3 : Int32) (q1 : Int32) (q2 : Int32) (Kf : Int32 → rd_M → Option (Int32 × rd_M)) (rec : Int32 → rd_M → Option (Int32 × rd_M)) (v70_4 : Int32) (v70_M : rd_M) : Option (Int32 × rd_M) :=
  if 5 ≤ v70_4 then
    Kf v70_4 v70_M
  else
    (f_N_graceOn v70_M q2 v70_4).bind fun r14 =>
    if r14 = 0 then
      rec (v70_4 + 1) v70_M
    else
      if rd_in q1 4 then
      if rd_in ((5 * q2) + v70_4) 50 then
      if rd_in q1 4 then
      rd_k (rd_lU v70_M 2 q1.toNatClampNeg (((v70_M 2).2.1 q1.toNatClampNeg) + ((v70_M 20).2.1 (((5 * q2) + v70_4).toNatClampNeg)))) fun M19 =>
      rec (v70_4 + 1) M19
      else none
      else none
      else none
def f_N_delete (M : rd_M) (p1 : Int32) (p2 : Int32) : Option (Int32 × rd_M) :=
  (f_N_in M p1 0 3).bind fun r1 =>
  if r1 = 0 then
    (f_N_fail M 1).bind fun r3 =>
    some (r3.1, r3.2)
  else
    (f_N_in M p2 0 9).bind fun r4 =>
    if r4 = 0 then
      (f_N_fail M 1).bind fun r50 =>
      some (r50.1, r50.2)
    else
      (f_N_barred M p1 p2 2 0).bind fun r6 =>
      if r6 ≤ 0 then
        if rd_in p2 10 then
        if 0 ≤ ((M 16).1 p2.toNatClampNeg) then
          (f_N_fail M 4).bind fun r10 =>
          some (r10.1, r10.2)
        else
          (f_N_neededElsewhere M p2).bind fun r11 =>
          if r11 = 0 then
            rd_it (fun _ _ => none) (lb_N_delete_70 r6 p1 p2 (fun w70_4 w70_M =>
              (f_N_graceOn w70_M p2 0).bind fun r20 =>
              if r20 = 0 then
                (f_N_graceOn w70_M p2 4).bind fun r22 =>
                if r22 = 0 then
                  if rd_in p2 10 then
                  rd_k (rd_iU w70_M 14 p2.toNatClampNeg 1) fun M25 =>
                  if rd_in p2 10 then
                  rd_k (rd_iU M25 15 p2.toNatClampNeg (((M25 0).1 1) + 5)) fun M27 =>
                  (f_N_noGrace M27 p2).bind fun r28 =>
                  (f_N_give r28 1).bind fun r29 =>
                  some (r29.1, r29.2)
                  else none
                  else none
                else
                  if rd_in p2 10 then
                  if rd_in p2 10 then
                  rd_k (rd_iU w70_M 11 p2.toNatClampNeg (((w70_M 11).1 p2.toNatClampNeg) - 10)) fun M32 =>
                  if rd_in p2 10 then
                  rd_k (rd_iU M32 14 p2.toNatClampNeg 1) fun M34 =>
                  if rd_in p2 10 then
                  rd_k (rd_iU M34 15 p2.toNatClampNeg (((M34 0).1 1) + 5)) fun M36 =>
                  (f_N_noGrace M36 p2).bind fun r37 =>
                  (f_N_give r37 1).bind fun r38 =>
                  some (r38.1, r38.2)
                  else none
                  else none
                  else none
                  else none
              else
                (f_N_removeDomain w70_M p2).bind fun r39 =>
                (f_N_give r39 2).bind fun r40 =>
                some (r40.1, r40.2))) 64 0 M
          else
            (f_N_fail M 4).bind fun r48 =>
            some (r48.1, r48.2)
        else none
      else
        (f_N_fail M r6).bind fun r49 =>
        some (r49.1, r49.2)
set_option maxRecDepth 100000 in
set_option maxHeartbeats 4000000 in
theorem c_N_delete {l : Launch} (hls : l.stackTraces = false) {D : va_G} {Ka : Nat → ClassId} {ad : Nat → Nat} {M : rd_M} (p1 : Int32) (p2 : Int32)  {o : Int32 × rd_M} (hf : f_N_delete M p1 p2 = some o) :
    rd_Met l y_N_delete b_N_delete 5 (some .int) (3, 71, 0, 0) rd_T rd_ss D rd_cl (rd_ty Ka) (rm_L Ka) ad M [.ref (ad 0), .int p1, .int p2] (fun r M1 => r = some (.int o.1) ∧ o.2 = M1) (fun _ => False) := by
  refine rd_body (by decide) (Nat.le_of_ble_eq_true rfl) ?_
  intro p e s m below meth c C9 hlk hret hnt hTh hW ls hl
  have hx := C9.1.1
  have hb := C9.1.2.1
  have hl : lv_has ls 5 [(0, .ref (ad 0)), (1, .int p1), (2, .int p2)] := hl
  unfold f_N_delete at hf
  refine lv_iload_n hx hb d_N_delete_0 rfl (lv_at hl 1 rfl) ?_
  refine lv_iconst (v := 0) hx hb d_N_delete_1 (by decide) ?_
  refine lv_iconst (v := 3) hx hb d_N_delete_2 (by decide) ?_
  obtain ⟨r1, qr1, hf⟩ := rd_bind hf
  refine rd_callS (As := [.int p1, .int 0, .int 3]) (rest := []) rd_gd C9 hTh hW (c_N_in hls p1 0 3 qr1) kc_N_in ki_N_in l_N_116 rfl ⟨Nat.le_of_ble_eq_true rfl, Nat.le_of_ble_eq_true rfl⟩ ⟨Nat.le_of_ble_eq_true rfl, Nat.le_of_ble_eq_true rfl⟩ hl.1 rfl (Nat.le_of_ble_eq_true rfl) d_N_delete_3 (fun E _ _ _ _ hex => hex.elim) (fun rr MM H locs hp hW => ?_)
  obtain ⟨rfl, rfl⟩ := hp
  refine lv_if_eq (tgt := 19) hx hb d_N_delete_6 (by decide) (fun c2 => ?_) (fun c2 => ?_)
  · have hf := rd_t hf c2
    refine lv_aload_n hx hb d_N_delete_19 rfl (lv_at hl 0 rfl) ?_
    refine lv_iconst (v := 1) hx hb d_N_delete_20 (by decide) ?_
    obtain ⟨r3, qr3, hf⟩ := rd_bind hf
    refine rd_callV (As := [.int 1]) (rest := []) rd_gd C9 hTh hW (c_N_fail hls 1 qr3) kc_N_fail ki_N_fail ks_N_fail l_N_122 rfl (lt_N) (ce_N) rfl ⟨Nat.le_of_ble_eq_true rfl, Nat.le_of_ble_eq_true rfl⟩ ⟨Nat.le_of_ble_eq_true rfl, Nat.le_of_ble_eq_true rfl⟩ hl.1 rfl (Nat.le_of_ble_eq_true rfl) d_N_delete_21 (fun E _ _ _ _ hex => hex.elim) (fun rr MM H locs hp hW => ?_)
    obtain ⟨rfl, rfl⟩ := hp
    obtain rfl := Option.some.inj hf
    exact rd_iret C9 hlk hret hW ⟨rfl, rfl⟩ (by decide) (by decide) d_N_delete_24
  · have hf := rd_f hf c2
    refine lv_iload_n hx hb d_N_delete_9 rfl (lv_at hl 2 rfl) ?_
    refine lv_iconst (v := 0) hx hb d_N_delete_10 (by decide) ?_
    refine lv_bipush (v := 9) hx hb d_N_delete_11 (by decide) ?_
    obtain ⟨r4, qr4, hf⟩ := rd_bind hf
    refine rd_callS (As := [.int p2, .int 0, .int 9]) (rest := []) rd_gd C9 hTh hW (c_N_in hls p2 0 9 qr4) kc_N_in ki_N_in l_N_116 rfl ⟨Nat.le_of_ble_eq_true rfl, Nat.le_of_ble_eq_true rfl⟩ ⟨Nat.le_of_ble_eq_true rfl, Nat.le_of_ble_eq_true rfl⟩ hl.1 rfl (Nat.le_of_ble_eq_true rfl) d_N_delete_13 (fun E _ _ _ _ hex => hex.elim) (fun rr MM H locs hp hW => ?_)
    obtain ⟨rfl, rfl⟩ := hp
    refine lv_if_ne (tgt := 25) hx hb d_N_delete_16 (by decide) (fun c5 => ?_) (fun c5 => ?_)
    · have hf := rd_f hf c5
      refine lv_aload_n hx hb d_N_delete_25 rfl (lv_at hl 0 rfl) ?_
      refine lv_iload_n hx hb d_N_delete_26 rfl (lv_at hl 1 rfl) ?_
      refine lv_iload_n hx hb d_N_delete_27 rfl (lv_at hl 2 rfl) ?_
      refine lv_iconst (v := 2) hx hb d_N_delete_28 (by decide) ?_
      refine lv_iconst (v := 0) hx hb d_N_delete_29 (by decide) ?_
      obtain ⟨r6, qr6, hf⟩ := rd_bind hf
      refine rd_callV (As := [.int p1, .int p2, .int 2, .int 0]) (rest := []) rd_gd C9 hTh hW (c_N_barred hls p1 p2 2 0 qr6) kc_N_barred ki_N_barred ks_N_barred l_N_158 rfl (lt_N) (ce_N) rfl ⟨Nat.le_of_ble_eq_true rfl, Nat.le_of_ble_eq_true rfl⟩ ⟨Nat.le_of_ble_eq_true rfl, Nat.le_of_ble_eq_true rfl⟩ hl.1 rfl (Nat.le_of_ble_eq_true rfl) d_N_delete_30 (fun E _ _ _ _ hex => hex.elim) (fun rr MM H locs hp hW => ?_)
      obtain ⟨rfl, rfl⟩ := hp
      refine lv_istore_n (lv' := [(3, .int r6), (0, .ref (ad 0)), (1, .int p1), (2, .int p2)]) hx hb d_N_delete_33 rfl hl (by decide) rfl (fun ls hl => ?_)
      refine lv_iload_n hx hb d_N_delete_34 rfl (lv_at hl 0 rfl) ?_
      refine lv_if_le (tgt := 44) hx hb d_N_delete_35 (by decide) (fun c7 => ?_) (fun c7 => ?_)
      · have hf := rd_t hf c7
        refine lv_aload_n hx hb d_N_delete_44 rfl (lv_at hl 1 rfl) ?_
        refine gf_N_wants C9 hW l_N_58 d_N_delete_45 ?_
        refine lv_iload_n hx hb d_N_delete_48 rfl (lv_at hl 3 rfl) ?_
        obtain ⟨g8, hf⟩ := rd_g hf
        refine al_m_wants C9 hW rfl g8 d_N_delete_49 ?_
        refine lv_if_ge (tgt := 61) hx hb d_N_delete_50 (by decide) (fun c9 => ?_) (fun c9 => ?_)
        · have hf := rd_t hf c9
          refine lv_aload_n hx hb d_N_delete_61 rfl (lv_at hl 1 rfl) ?_
          refine lv_iconst (v := 4) hx hb d_N_delete_62 (by decide) ?_
          obtain ⟨r10, qr10, hf⟩ := rd_bind hf
          refine rd_callV (As := [.int 4]) (rest := []) rd_gd C9 hTh hW (c_N_fail hls 4 qr10) kc_N_fail ki_N_fail ks_N_fail l_N_122 rfl (lt_N) (ce_N) rfl ⟨Nat.le_of_ble_eq_true rfl, Nat.le_of_ble_eq_true rfl⟩ ⟨Nat.le_of_ble_eq_true rfl, Nat.le_of_ble_eq_true rfl⟩ hl.1 rfl (Nat.le_of_ble_eq_true rfl) d_N_delete_63 (fun E _ _ _ _ hex => hex.elim) (fun rr MM H locs hp hW => ?_)
          obtain ⟨rfl, rfl⟩ := hp
          obtain rfl := Option.some.inj hf
          exact rd_iret C9 hlk hret hW ⟨rfl, rfl⟩ (by decide) (by decide) d_N_delete_66
        · have hf := rd_f hf c9
          refine lv_aload_n hx hb d_N_delete_53 rfl (lv_at hl 1 rfl) ?_
          refine lv_iload_n hx hb d_N_delete_54 rfl (lv_at hl 3 rfl) ?_
          obtain ⟨r11, qr11, hf⟩ := rd_bind hf
          refine rd_callV (As := [.int p2]) (rest := []) rd_gd C9 hTh hW (c_N_neededElsewhere hls p2 qr11) kc_N_neededElsewhere ki_N_neededElsewhere ks_N_neededElsewhere l_N_162 rfl (lt_N) (ce_N) rfl ⟨Nat.le_of_ble_eq_true rfl, Nat.le_of_ble_eq_true rfl⟩ ⟨Nat.le_of_ble_eq_true rfl, Nat.le_of_ble_eq_true rfl⟩ hl.1 rfl (Nat.le_of_ble_eq_true rfl) d_N_delete_55 (fun E _ _ _ _ hex => hex.elim) (fun rr MM H locs hp hW => ?_)
          obtain ⟨rfl, rfl⟩ := hp
          refine lv_if_eq (tgt := 67) hx hb d_N_delete_58 (by decide) (fun c12 => ?_) (fun c12 => ?_)
          · have hf := rd_t hf c12
            refine lv_iconst (v := 0) hx hb d_N_delete_67 (by decide) ?_
            refine lv_istore (lv' := [(4, .int 0), (3, .int r6), (0, .ref (ad 0)), (1, .int p1), (2, .int p2)]) hx hb d_N_delete_68 hl (by decide) rfl (fun ls hl => ?_)
            have loop_70 : ∀ (Kf : Int32 → rd_M → Option (Int32 × rd_M)) (hk_70 : ∀ (w70_4 : Int32) (w70_M : rd_M) (H : Heap) (locs : List Loc) (ls : Array Slot), Kf w70_4 w70_M = some o → rd_W D rd_cl (rm_L Ka) ad (rd_A (rm_L Ka) ad s.heap.size) s.heap w70_M H locs → lv_has ls 5 [(4, .int w70_4), (3, .int r6), (0, .ref (ad 0)), (1, .int p1), (2, .int p2)] → W p l e { frames := 3, cells := 0, slots := 0, locals := 71 } s m [.ref (ad 0), .int p1, .int p2].toArray below meth c H locs 0 0 (rd_Z below (rd_O D rd_cl (rm_L Ka) ad M (rd_A (rm_L Ka) ad s.heap.size) 0 0 (fun r M1 => r = some (.int o.1) ∧ o.2 = M1) (fun _ => False)) s) (F0 m 112 ls [])) (fu : Nat) (v70_4 : Int32) (v70_M : rd_M) (H : Heap) (locs : List Loc) (ls : Array Slot), rd_it (fun _ _ => none) (lb_N_delete_70 r6 p1 p2 Kf) fu v70_4 v70_M = some o → rd_W D rd_cl (rm_L Ka) ad (rd_A (rm_L Ka) ad s.heap.size) s.heap v70_M H locs → lv_has ls 5 [(4, .int v70_4), (3, .int r6), (0, .ref (ad 0)), (1, .int p1), (2, .int p2)] → W p l e { frames := 3, cells := 0, slots := 0, locals := 71 } s m [.ref (ad 0), .int p1, .int p2].toArray below meth c H locs 0 0 (rd_Z below (rd_O D rd_cl (rm_L Ka) ad M (rd_A (rm_L Ka) ad s.heap.size) 0 0 (fun r M1 => r = some (.int o.1) ∧ o.2 = M1) (fun _ => False)) s) (F0 m 70 ls []) := by
              intro Kf hk_70 fu
              induction fu with
              | zero => intro _ _ H locs ls hf; exact (rd_nf hf).elim
              | succ fu ih_70 =>
                intro v70_4 v70_M H locs ls hf hW hl
                rw [rd_it_s] at hf
                unfold lb_N_delete_70 at hf
                refine lv_iload hx hb d_N_delete_70 (lv_at hl 0 rfl) ?_
                refine lv_iconst (v := 5) hx hb d_N_delete_72 (by decide) ?_
                refine lv_icmp_ge (tgt := 112) hx hb d_N_delete_73 (by decide) (fun c41 => ?_) (fun c41 => ?_)
                · have hf := rd_t hf c41
                  exact hk_70 _ _ _ _ _ hf hW (lv_sub hl [0, 1, 2, 3, 4] rfl)
                · have hf := rd_f hf c41
                  refine lv_aload_n hx hb d_N_delete_76 rfl (lv_at hl 2 rfl) ?_
                  refine lv_iload_n hx hb d_N_delete_77 rfl (lv_at hl 4 rfl) ?_
                  refine lv_iload hx hb d_N_delete_78 (lv_at hl 0 rfl) ?_
                  obtain ⟨r42, qr42, hf⟩ := rd_bind hf
                  refine rd_callV (As := [.int p2, .int v70_4]) (rest := []) rd_gd C9 hTh hW (c_N_graceOn hls p2 v70_4 qr42) kc_N_graceOn ki_N_graceOn ks_N_graceOn l_N_165 rfl (lt_N) (ce_N) rfl ⟨Nat.le_of_ble_eq_true rfl, Nat.le_of_ble_eq_true rfl⟩ ⟨Nat.le_of_ble_eq_true rfl, Nat.le_of_ble_eq_true rfl⟩ hl.1 rfl (Nat.le_of_ble_eq_true rfl) d_N_delete_80 (fun E _ _ _ _ hex => hex.elim) (fun rr MM H locs hp hW => ?_)
                  obtain ⟨rfl, rfl⟩ := hp
                  refine lv_if_eq (tgt := 106) hx hb d_N_delete_83 (by decide) (fun c43 => ?_) (fun c43 => ?_)
                  · have hf := rd_t hf c43
                    refine lv_iinc (v := v70_4 + 1) (lv' := [(4, .int (v70_4 + 1)), (3, .int r6), (0, .ref (ad 0)), (1, .int p1), (2, .int p2)]) hx hb d_N_delete_106 hl (k := 0) rfl rfl (by decide) rfl (fun ls hl => ?_)
                    refine lv_goto (tgt := 70) hx hb d_N_delete_109 (by decide) ?_
                    exact ih_70 _ _ _ _ _ hf hW (lv_sub hl [0, 1, 2, 3, 4] rfl)
                  · have hf := rd_f hf c43
                    refine lv_aload_n hx hb d_N_delete_86 rfl (lv_at hl 2 rfl) ?_
                    refine gf_N_balance C9 hW l_N_15 d_N_delete_87 ?_
                    refine lv_iload_n hx hb d_N_delete_90 rfl (lv_at hl 3 rfl) ?_
                    refine lv_dup2_11 hx hb d_N_delete_91 rfl rfl ?_
                    obtain ⟨g44, hf⟩ := rd_g hf
                    refine al_m_balance C9 hW rfl g44 d_N_delete_92 ?_
                    refine lv_aload_n hx hb d_N_delete_93 rfl (lv_at hl 2 rfl) ?_
                    refine gf_N_grace C9 hW l_N_70 d_N_delete_94 ?_
                    refine lv_iconst (v := 5) hx hb d_N_delete_97 (by decide) ?_
                    refine lv_iload_n hx hb d_N_delete_98 rfl (lv_at hl 4 rfl) ?_
                    refine lv_imul hx hb d_N_delete_99 ?_
                    refine lv_iload hx hb d_N_delete_100 (lv_at hl 0 rfl) ?_
                    refine lv_iadd hx hb d_N_delete_102 ?_
                    obtain ⟨g45, hf⟩ := rd_g hf
                    refine al_m_grace C9 hW rfl g45 d_N_delete_103 ?_
                    refine lv_ladd hx hb d_N_delete_104 ?_
                    obtain ⟨g46, hf⟩ := rd_g hf
                    refine as_m_balance C9 hW rfl g46 d_N_delete_105 (fun H locs hW => ?_)
                    obtain ⟨M47, hM47, hf⟩ := rd_k_el hf
                    rw [← hM47] at hW
                    refine lv_iinc (v := v70_4 + 1) (lv' := [(4, .int (v70_4 + 1)), (3, .int r6), (0, .ref (ad 0)), (1, .int p1), (2, .int p2)]) hx hb d_N_delete_106 hl (k := 0) rfl rfl (by decide) rfl (fun ls hl => ?_)
                    refine lv_goto (tgt := 70) hx hb d_N_delete_109 (by decide) ?_
                    exact ih_70 _ _ _ _ _ hf hW (lv_sub hl [0, 1, 2, 3, 4] rfl)
            refine loop_70 _ ?_ 64 _ _ _ _ _ hf hW (lv_sub hl [0, 1, 2, 3, 4] rfl)
            intro w70_4 w70_M H locs ls hf hW hl
            refine lv_aload_n hx hb d_N_delete_112 rfl (lv_at hl 2 rfl) ?_
            refine lv_iload_n hx hb d_N_delete_113 rfl (lv_at hl 4 rfl) ?_
            refine lv_iconst (v := 0) hx hb d_N_delete_114 (by decide) ?_
            obtain ⟨r20, qr20, hf⟩ := rd_bind hf
            refine rd_callV (As := [.int p2, .int 0]) (rest := []) rd_gd C9 hTh hW (c_N_graceOn hls p2 0 qr20) kc_N_graceOn ki_N_graceOn ks_N_graceOn l_N_165 rfl (lt_N) (ce_N) rfl ⟨Nat.le_of_ble_eq_true rfl, Nat.le_of_ble_eq_true rfl⟩ ⟨Nat.le_of_ble_eq_true rfl, Nat.le_of_ble_eq_true rfl⟩ hl.1 rfl (Nat.le_of_ble_eq_true rfl) d_N_delete_115 (fun E _ _ _ _ hex => hex.elim) (fun rr MM H locs hp hW => ?_)
            obtain ⟨rfl, rfl⟩ := hp
            refine lv_if_eq (tgt := 132) hx hb d_N_delete_118 (by decide) (fun c21 => ?_) (fun c21 => ?_)
            · have hf := rd_t hf c21
              refine lv_aload_n hx hb d_N_delete_132 rfl (lv_at hl 2 rfl) ?_
              refine lv_iload_n hx hb d_N_delete_133 rfl (lv_at hl 4 rfl) ?_
              refine lv_iconst (v := 4) hx hb d_N_delete_134 (by decide) ?_
              obtain ⟨r22, qr22, hf⟩ := rd_bind hf
              refine rd_callV (As := [.int p2, .int 4]) (rest := []) rd_gd C9 hTh hW (c_N_graceOn hls p2 4 qr22) kc_N_graceOn ki_N_graceOn ks_N_graceOn l_N_165 rfl (lt_N) (ce_N) rfl ⟨Nat.le_of_ble_eq_true rfl, Nat.le_of_ble_eq_true rfl⟩ ⟨Nat.le_of_ble_eq_true rfl, Nat.le_of_ble_eq_true rfl⟩ hl.1 rfl (Nat.le_of_ble_eq_true rfl) d_N_delete_135 (fun E _ _ _ _ hex => hex.elim) (fun rr MM H locs hp hW => ?_)
              obtain ⟨rfl, rfl⟩ := hp
              refine lv_if_eq (tgt := 152) hx hb d_N_delete_138 (by decide) (fun c23 => ?_) (fun c23 => ?_)
              · have hf := rd_t hf c23
                refine lv_aload_n hx hb d_N_delete_152 rfl (lv_at hl 2 rfl) ?_
                refine gf_N_state C9 hW l_N_52 d_N_delete_153 ?_
                refine lv_iload_n hx hb d_N_delete_156 rfl (lv_at hl 4 rfl) ?_
                refine lv_iconst (v := 1) hx hb d_N_delete_157 (by decide) ?_
                obtain ⟨g24, hf⟩ := rd_g hf
                refine as_m_state C9 hW rfl g24 d_N_delete_158 (fun H locs hW => ?_)
                obtain ⟨M25, hM25, hf⟩ := rd_k_el hf
                rw [← hM25] at hW
                refine lv_aload_n hx hb d_N_delete_159 rfl (lv_at hl 2 rfl) ?_
                refine gf_N_ends C9 hW l_N_55 d_N_delete_160 ?_
                refine lv_iload_n hx hb d_N_delete_163 rfl (lv_at hl 4 rfl) ?_
                refine lv_aload_n hx hb d_N_delete_164 rfl (lv_at hl 2 rfl) ?_
                refine gf_N_day C9 hW l_N_98 d_N_delete_165 ?_
                refine lv_iconst (v := 5) hx hb d_N_delete_168 (by decide) ?_
                refine lv_iadd hx hb d_N_delete_169 ?_
                obtain ⟨g26, hf⟩ := rd_g hf
                refine as_m_ends C9 hW rfl g26 d_N_delete_170 (fun H locs hW => ?_)
                obtain ⟨M27, hM27, hf⟩ := rd_k_el hf
                rw [← hM27] at hW
                refine lv_aload_n hx hb d_N_delete_171 rfl (lv_at hl 2 rfl) ?_
                refine lv_iload_n hx hb d_N_delete_172 rfl (lv_at hl 4 rfl) ?_
                obtain ⟨r28, qr28, hf⟩ := rd_bind hf
                refine rd_callV (As := [.int p2]) (rest := []) rd_gd C9 hTh hW (c_N_noGrace hls p2 qr28) kc_N_noGrace ki_N_noGrace ks_N_noGrace l_N_151 rfl (lt_N) (ce_N) rfl ⟨Nat.le_of_ble_eq_true rfl, Nat.le_of_ble_eq_true rfl⟩ ⟨Nat.le_of_ble_eq_true rfl, Nat.le_of_ble_eq_true rfl⟩ hl.1 rfl (Nat.le_of_ble_eq_true rfl) d_N_delete_173 (fun E _ _ _ _ hex => hex.elim) (fun rr MM H locs hp hW => ?_)
                obtain ⟨rfl, rfl⟩ := hp
                refine lv_aload_n hx hb d_N_delete_176 rfl (lv_at hl 2 rfl) ?_
                refine lv_iconst (v := 1) hx hb d_N_delete_177 (by decide) ?_
                obtain ⟨r29, qr29, hf⟩ := rd_bind hf
                refine rd_callV (As := [.int 1]) (rest := []) rd_gd C9 hTh hW (c_N_give hls 1 qr29) kc_N_give ki_N_give ks_N_give l_N_126 rfl (lt_N) (ce_N) rfl ⟨Nat.le_of_ble_eq_true rfl, Nat.le_of_ble_eq_true rfl⟩ ⟨Nat.le_of_ble_eq_true rfl, Nat.le_of_ble_eq_true rfl⟩ hl.1 rfl (Nat.le_of_ble_eq_true rfl) d_N_delete_178 (fun E _ _ _ _ hex => hex.elim) (fun rr MM H locs hp hW => ?_)
                obtain ⟨rfl, rfl⟩ := hp
                obtain rfl := Option.some.inj hf
                exact rd_iret C9 hlk hret hW ⟨rfl, rfl⟩ (by decide) (by decide) d_N_delete_181
              · have hf := rd_f hf c23
                refine lv_aload_n hx hb d_N_delete_141 rfl (lv_at hl 2 rfl) ?_
                refine gf_N_expiry C9 hW l_N_43 d_N_delete_142 ?_
                refine lv_iload_n hx hb d_N_delete_145 rfl (lv_at hl 4 rfl) ?_
                refine lv_dup2_11 hx hb d_N_delete_146 rfl rfl ?_
                obtain ⟨g30, hf⟩ := rd_g hf
                refine al_m_expiry C9 hW rfl g30 d_N_delete_147 ?_
                refine lv_bipush (v := 10) hx hb d_N_delete_148 (by decide) ?_
                refine lv_isub hx hb d_N_delete_150 ?_
                obtain ⟨g31, hf⟩ := rd_g hf
                refine as_m_expiry C9 hW rfl g31 d_N_delete_151 (fun H locs hW => ?_)
                obtain ⟨M32, hM32, hf⟩ := rd_k_el hf
                rw [← hM32] at hW
                refine lv_aload_n hx hb d_N_delete_152 rfl (lv_at hl 2 rfl) ?_
                refine gf_N_state C9 hW l_N_52 d_N_delete_153 ?_
                refine lv_iload_n hx hb d_N_delete_156 rfl (lv_at hl 4 rfl) ?_
                refine lv_iconst (v := 1) hx hb d_N_delete_157 (by decide) ?_
                obtain ⟨g33, hf⟩ := rd_g hf
                refine as_m_state C9 hW rfl g33 d_N_delete_158 (fun H locs hW => ?_)
                obtain ⟨M34, hM34, hf⟩ := rd_k_el hf
                rw [← hM34] at hW
                refine lv_aload_n hx hb d_N_delete_159 rfl (lv_at hl 2 rfl) ?_
                refine gf_N_ends C9 hW l_N_55 d_N_delete_160 ?_
                refine lv_iload_n hx hb d_N_delete_163 rfl (lv_at hl 4 rfl) ?_
                refine lv_aload_n hx hb d_N_delete_164 rfl (lv_at hl 2 rfl) ?_
                refine gf_N_day C9 hW l_N_98 d_N_delete_165 ?_
                refine lv_iconst (v := 5) hx hb d_N_delete_168 (by decide) ?_
                refine lv_iadd hx hb d_N_delete_169 ?_
                obtain ⟨g35, hf⟩ := rd_g hf
                refine as_m_ends C9 hW rfl g35 d_N_delete_170 (fun H locs hW => ?_)
                obtain ⟨M36, hM36, hf⟩ := rd_k_el hf
                rw [← hM36] at hW
                refine lv_aload_n hx hb d_N_delete_171 rfl (lv_at hl 2 rfl) ?_
                refine lv_iload_n hx hb d_N_delete_172 rfl (lv_at hl 4 rfl) ?_
                obtain ⟨r37, qr37, hf⟩ := rd_bind hf
                refine rd_callV (As := [.int p2]) (rest := []) rd_gd C9 hTh hW (c_N_noGrace hls p2 qr37) kc_N_noGrace ki_N_noGrace ks_N_noGrace l_N_151 rfl (lt_N) (ce_N) rfl ⟨Nat.le_of_ble_eq_true rfl, Nat.le_of_ble_eq_true rfl⟩ ⟨Nat.le_of_ble_eq_true rfl, Nat.le_of_ble_eq_true rfl⟩ hl.1 rfl (Nat.le_of_ble_eq_true rfl) d_N_delete_173 (fun E _ _ _ _ hex => hex.elim) (fun rr MM H locs hp hW => ?_)
                obtain ⟨rfl, rfl⟩ := hp
                refine lv_aload_n hx hb d_N_delete_176 rfl (lv_at hl 2 rfl) ?_
                refine lv_iconst (v := 1) hx hb d_N_delete_177 (by decide) ?_
                obtain ⟨r38, qr38, hf⟩ := rd_bind hf
                refine rd_callV (As := [.int 1]) (rest := []) rd_gd C9 hTh hW (c_N_give hls 1 qr38) kc_N_give ki_N_give ks_N_give l_N_126 rfl (lt_N) (ce_N) rfl ⟨Nat.le_of_ble_eq_true rfl, Nat.le_of_ble_eq_true rfl⟩ ⟨Nat.le_of_ble_eq_true rfl, Nat.le_of_ble_eq_true rfl⟩ hl.1 rfl (Nat.le_of_ble_eq_true rfl) d_N_delete_178 (fun E _ _ _ _ hex => hex.elim) (fun rr MM H locs hp hW => ?_)
                obtain ⟨rfl, rfl⟩ := hp
                obtain rfl := Option.some.inj hf
                exact rd_iret C9 hlk hret hW ⟨rfl, rfl⟩ (by decide) (by decide) d_N_delete_181
            · have hf := rd_f hf c21
              refine lv_aload_n hx hb d_N_delete_121 rfl (lv_at hl 2 rfl) ?_
              refine lv_iload_n hx hb d_N_delete_122 rfl (lv_at hl 4 rfl) ?_
              obtain ⟨r39, qr39, hf⟩ := rd_bind hf
              refine rd_callV (As := [.int p2]) (rest := []) rd_gd C9 hTh hW (c_N_removeDomain hls p2 qr39) kc_N_removeDomain ki_N_removeDomain ks_N_removeDomain l_N_168 rfl (lt_N) (ce_N) rfl ⟨Nat.le_of_ble_eq_true rfl, Nat.le_of_ble_eq_true rfl⟩ ⟨Nat.le_of_ble_eq_true rfl, Nat.le_of_ble_eq_true rfl⟩ hl.1 rfl (Nat.le_of_ble_eq_true rfl) d_N_delete_123 (fun E _ _ _ _ hex => hex.elim) (fun rr MM H locs hp hW => ?_)
              obtain ⟨rfl, rfl⟩ := hp
              refine lv_aload_n hx hb d_N_delete_126 rfl (lv_at hl 2 rfl) ?_
              refine lv_iconst (v := 2) hx hb d_N_delete_127 (by decide) ?_
              obtain ⟨r40, qr40, hf⟩ := rd_bind hf
              refine rd_callV (As := [.int 2]) (rest := []) rd_gd C9 hTh hW (c_N_give hls 2 qr40) kc_N_give ki_N_give ks_N_give l_N_126 rfl (lt_N) (ce_N) rfl ⟨Nat.le_of_ble_eq_true rfl, Nat.le_of_ble_eq_true rfl⟩ ⟨Nat.le_of_ble_eq_true rfl, Nat.le_of_ble_eq_true rfl⟩ hl.1 rfl (Nat.le_of_ble_eq_true rfl) d_N_delete_128 (fun E _ _ _ _ hex => hex.elim) (fun rr MM H locs hp hW => ?_)
              obtain ⟨rfl, rfl⟩ := hp
              obtain rfl := Option.some.inj hf
              exact rd_iret C9 hlk hret hW ⟨rfl, rfl⟩ (by decide) (by decide) d_N_delete_131
          · have hf := rd_f hf c12
            refine lv_aload_n hx hb d_N_delete_61 rfl (lv_at hl 1 rfl) ?_
            refine lv_iconst (v := 4) hx hb d_N_delete_62 (by decide) ?_
            obtain ⟨r48, qr48, hf⟩ := rd_bind hf
            refine rd_callV (As := [.int 4]) (rest := []) rd_gd C9 hTh hW (c_N_fail hls 4 qr48) kc_N_fail ki_N_fail ks_N_fail l_N_122 rfl (lt_N) (ce_N) rfl ⟨Nat.le_of_ble_eq_true rfl, Nat.le_of_ble_eq_true rfl⟩ ⟨Nat.le_of_ble_eq_true rfl, Nat.le_of_ble_eq_true rfl⟩ hl.1 rfl (Nat.le_of_ble_eq_true rfl) d_N_delete_63 (fun E _ _ _ _ hex => hex.elim) (fun rr MM H locs hp hW => ?_)
            obtain ⟨rfl, rfl⟩ := hp
            obtain rfl := Option.some.inj hf
            exact rd_iret C9 hlk hret hW ⟨rfl, rfl⟩ (by decide) (by decide) d_N_delete_66
      · have hf := rd_f hf c7
        refine lv_aload_n hx hb d_N_delete_38 rfl (lv_at hl 1 rfl) ?_
        refine lv_iload_n hx hb d_N_delete_39 rfl (lv_at hl 0 rfl) ?_
        obtain ⟨r49, qr49, hf⟩ := rd_bind hf
        refine rd_callV (As := [.int r6]) (rest := []) rd_gd C9 hTh hW (c_N_fail hls r6 qr49) kc_N_fail ki_N_fail ks_N_fail l_N_122 rfl (lt_N) (ce_N) rfl ⟨Nat.le_of_ble_eq_true rfl, Nat.le_of_ble_eq_true rfl⟩ ⟨Nat.le_of_ble_eq_true rfl, Nat.le_of_ble_eq_true rfl⟩ hl.1 rfl (Nat.le_of_ble_eq_true rfl) d_N_delete_40 (fun E _ _ _ _ hex => hex.elim) (fun rr MM H locs hp hW => ?_)
        obtain ⟨rfl, rfl⟩ := hp
        obtain rfl := Option.some.inj hf
        exact rd_iret C9 hlk hret hW ⟨rfl, rfl⟩ (by decide) (by decide) d_N_delete_43
    · have hf := rd_t hf c5
      refine lv_aload_n hx hb d_N_delete_19 rfl (lv_at hl 0 rfl) ?_
      refine lv_iconst (v := 1) hx hb d_N_delete_20 (by decide) ?_
      obtain ⟨r50, qr50, hf⟩ := rd_bind hf
      refine rd_callV (As := [.int 1]) (rest := []) rd_gd C9 hTh hW (c_N_fail hls 1 qr50) kc_N_fail ki_N_fail ks_N_fail l_N_122 rfl (lt_N) (ce_N) rfl ⟨Nat.le_of_ble_eq_true rfl, Nat.le_of_ble_eq_true rfl⟩ ⟨Nat.le_of_ble_eq_true rfl, Nat.le_of_ble_eq_true rfl⟩ hl.1 rfl (Nat.le_of_ble_eq_true rfl) d_N_delete_21 (fun E _ _ _ _ hex => hex.elim) (fun rr MM H locs hp hW => ?_)
      obtain ⟨rfl, rfl⟩ := hp
      obtain rfl := Option.some.inj hf
      exact rd_iret C9 hlk hret hW ⟨rfl, rfl⟩ (by decide) (by decide) d_N_delete_24
def f_N_restore (M : rd_M) (p1 : Int32) (p2 : Int32) : Option (Int32 × rd_M) :=
  (f_N_in M p1 0 3).bind fun r1 =>
  if r1 = 0 then
    (f_N_fail M 1).bind fun r3 =>
    some (r3.1, r3.2)
  else
    (f_N_in M p2 0 9).bind fun r4 =>
    if r4 = 0 then
      (f_N_fail M 1).bind fun r17 =>
      some (r17.1, r17.2)
    else
      (f_N_barred M p1 p2 0 1).bind fun r6 =>
      if r6 ≤ 0 then
        (f_N_canPay M p1 3 1).bind fun r8 =>
        if r8 = 0 then
          (f_N_fail M 4).bind fun r15 =>
          some (r15.1, r15.2)
        else
          (f_N_pay M p1 3 1 p2 (-1)).bind fun r10 =>
          if rd_in p2 10 then
          rd_k (rd_iU r10 14 p2.toNatClampNeg 0) fun M12 =>
          if rd_in p2 10 then
          (f_N_give M12 ((M12 11).1 p2.toNatClampNeg)).bind fun r14 =>
          some (r14.1, r14.2)
          else none
          else none
      else
        (f_N_fail M r6).bind fun r16 =>
        some (r16.1, r16.2)
set_option maxRecDepth 100000 in
set_option maxHeartbeats 4000000 in
theorem c_N_restore {l : Launch} (hls : l.stackTraces = false) {D : va_G} {Ka : Nat → ClassId} {ad : Nat → Nat} {M : rd_M} (p1 : Int32) (p2 : Int32)  {o : Int32 × rd_M} (hf : f_N_restore M p1 p2 = some o) :
    rd_Met l y_N_restore b_N_restore 4 (some .int) (2, 52, 0, 0) rd_T rd_ss D rd_cl (rd_ty Ka) (rm_L Ka) ad M [.ref (ad 0), .int p1, .int p2] (fun r M1 => r = some (.int o.1) ∧ o.2 = M1) (fun _ => False) := by
  refine rd_body (by decide) (Nat.le_of_ble_eq_true rfl) ?_
  intro p e s m below meth c C9 hlk hret hnt hTh hW ls hl
  have hx := C9.1.1
  have hb := C9.1.2.1
  have hl : lv_has ls 4 [(0, .ref (ad 0)), (1, .int p1), (2, .int p2)] := hl
  unfold f_N_restore at hf
  refine lv_iload_n hx hb d_N_restore_0 rfl (lv_at hl 1 rfl) ?_
  refine lv_iconst (v := 0) hx hb d_N_restore_1 (by decide) ?_
  refine lv_iconst (v := 3) hx hb d_N_restore_2 (by decide) ?_
  obtain ⟨r1, qr1, hf⟩ := rd_bind hf
  refine rd_callS (As := [.int p1, .int 0, .int 3]) (rest := []) rd_gd C9 hTh hW (c_N_in hls p1 0 3 qr1) kc_N_in ki_N_in l_N_116 rfl ⟨Nat.le_of_ble_eq_true rfl, Nat.le_of_ble_eq_true rfl⟩ ⟨Nat.le_of_ble_eq_true rfl, Nat.le_of_ble_eq_true rfl⟩ hl.1 rfl (Nat.le_of_ble_eq_true rfl) d_N_restore_3 (fun E _ _ _ _ hex => hex.elim) (fun rr MM H locs hp hW => ?_)
  obtain ⟨rfl, rfl⟩ := hp
  refine lv_if_eq (tgt := 19) hx hb d_N_restore_6 (by decide) (fun c2 => ?_) (fun c2 => ?_)
  · have hf := rd_t hf c2
    refine lv_aload_n hx hb d_N_restore_19 rfl (lv_at hl 0 rfl) ?_
    refine lv_iconst (v := 1) hx hb d_N_restore_20 (by decide) ?_
    obtain ⟨r3, qr3, hf⟩ := rd_bind hf
    refine rd_callV (As := [.int 1]) (rest := []) rd_gd C9 hTh hW (c_N_fail hls 1 qr3) kc_N_fail ki_N_fail ks_N_fail l_N_122 rfl (lt_N) (ce_N) rfl ⟨Nat.le_of_ble_eq_true rfl, Nat.le_of_ble_eq_true rfl⟩ ⟨Nat.le_of_ble_eq_true rfl, Nat.le_of_ble_eq_true rfl⟩ hl.1 rfl (Nat.le_of_ble_eq_true rfl) d_N_restore_21 (fun E _ _ _ _ hex => hex.elim) (fun rr MM H locs hp hW => ?_)
    obtain ⟨rfl, rfl⟩ := hp
    obtain rfl := Option.some.inj hf
    exact rd_iret C9 hlk hret hW ⟨rfl, rfl⟩ (by decide) (by decide) d_N_restore_24
  · have hf := rd_f hf c2
    refine lv_iload_n hx hb d_N_restore_9 rfl (lv_at hl 2 rfl) ?_
    refine lv_iconst (v := 0) hx hb d_N_restore_10 (by decide) ?_
    refine lv_bipush (v := 9) hx hb d_N_restore_11 (by decide) ?_
    obtain ⟨r4, qr4, hf⟩ := rd_bind hf
    refine rd_callS (As := [.int p2, .int 0, .int 9]) (rest := []) rd_gd C9 hTh hW (c_N_in hls p2 0 9 qr4) kc_N_in ki_N_in l_N_116 rfl ⟨Nat.le_of_ble_eq_true rfl, Nat.le_of_ble_eq_true rfl⟩ ⟨Nat.le_of_ble_eq_true rfl, Nat.le_of_ble_eq_true rfl⟩ hl.1 rfl (Nat.le_of_ble_eq_true rfl) d_N_restore_13 (fun E _ _ _ _ hex => hex.elim) (fun rr MM H locs hp hW => ?_)
    obtain ⟨rfl, rfl⟩ := hp
    refine lv_if_ne (tgt := 25) hx hb d_N_restore_16 (by decide) (fun c5 => ?_) (fun c5 => ?_)
    · have hf := rd_f hf c5
      refine lv_aload_n hx hb d_N_restore_25 rfl (lv_at hl 0 rfl) ?_
      refine lv_iload_n hx hb d_N_restore_26 rfl (lv_at hl 1 rfl) ?_
      refine lv_iload_n hx hb d_N_restore_27 rfl (lv_at hl 2 rfl) ?_
      refine lv_iconst (v := 0) hx hb d_N_restore_28 (by decide) ?_
      refine lv_iconst (v := 1) hx hb d_N_restore_29 (by decide) ?_
      obtain ⟨r6, qr6, hf⟩ := rd_bind hf
      refine rd_callV (As := [.int p1, .int p2, .int 0, .int 1]) (rest := []) rd_gd C9 hTh hW (c_N_barred hls p1 p2 0 1 qr6) kc_N_barred ki_N_barred ks_N_barred l_N_158 rfl (lt_N) (ce_N) rfl ⟨Nat.le_of_ble_eq_true rfl, Nat.le_of_ble_eq_true rfl⟩ ⟨Nat.le_of_ble_eq_true rfl, Nat.le_of_ble_eq_true rfl⟩ hl.1 rfl (Nat.le_of_ble_eq_true rfl) d_N_restore_30 (fun E _ _ _ _ hex => hex.elim) (fun rr MM H locs hp hW => ?_)
      obtain ⟨rfl, rfl⟩ := hp
      refine lv_istore_n (lv' := [(3, .int r6), (0, .ref (ad 0)), (1, .int p1), (2, .int p2)]) hx hb d_N_restore_33 rfl hl (by decide) rfl (fun ls hl => ?_)
      refine lv_iload_n hx hb d_N_restore_34 rfl (lv_at hl 0 rfl) ?_
      refine lv_if_le (tgt := 44) hx hb d_N_restore_35 (by decide) (fun c7 => ?_) (fun c7 => ?_)
      · have hf := rd_t hf c7
        refine lv_aload_n hx hb d_N_restore_44 rfl (lv_at hl 1 rfl) ?_
        refine lv_iload_n hx hb d_N_restore_45 rfl (lv_at hl 2 rfl) ?_
        refine lv_iconst (v := 3) hx hb d_N_restore_46 (by decide) ?_
        refine lv_iconst (v := 1) hx hb d_N_restore_47 (by decide) ?_
        obtain ⟨r8, qr8, hf⟩ := rd_bind hf
        refine rd_callV (As := [.int p1, .int 3, .int 1]) (rest := []) rd_gd C9 hTh hW (c_N_canPay hls p1 3 1 qr8) kc_N_canPay ki_N_canPay ks_N_canPay l_N_148 rfl (lt_N) (ce_N) rfl ⟨Nat.le_of_ble_eq_true rfl, Nat.le_of_ble_eq_true rfl⟩ ⟨Nat.le_of_ble_eq_true rfl, Nat.le_of_ble_eq_true rfl⟩ hl.1 rfl (Nat.le_of_ble_eq_true rfl) d_N_restore_48 (fun E _ _ _ _ hex => hex.elim) (fun rr MM H locs hp hW => ?_)
        obtain ⟨rfl, rfl⟩ := hp
        refine lv_if_ne (tgt := 60) hx hb d_N_restore_51 (by decide) (fun c9 => ?_) (fun c9 => ?_)
        · have hf := rd_f hf c9
          refine lv_aload_n hx hb d_N_restore_60 rfl (lv_at hl 1 rfl) ?_
          refine lv_iload_n hx hb d_N_restore_61 rfl (lv_at hl 2 rfl) ?_
          refine lv_iconst (v := 3) hx hb d_N_restore_62 (by decide) ?_
          refine lv_iconst (v := 1) hx hb d_N_restore_63 (by decide) ?_
          refine lv_iload_n hx hb d_N_restore_64 rfl (lv_at hl 3 rfl) ?_
          refine lv_iconst (v := (-1)) hx hb d_N_restore_65 (by decide) ?_
          obtain ⟨r10, qr10, hf⟩ := rd_bind hf
          refine rd_callV (As := [.int p1, .int 3, .int 1, .int p2, .int (-1)]) (rest := []) rd_gd C9 hTh hW (c_N_pay hls p1 3 1 p2 (-1) qr10) kc_N_pay ki_N_pay ks_N_pay l_N_154 rfl (lt_N) (ce_N) rfl ⟨Nat.le_of_ble_eq_true rfl, Nat.le_of_ble_eq_true rfl⟩ ⟨Nat.le_of_ble_eq_true rfl, Nat.le_of_ble_eq_true rfl⟩ hl.1 rfl (Nat.le_of_ble_eq_true rfl) d_N_restore_66 (fun E _ _ _ _ hex => hex.elim) (fun rr MM H locs hp hW => ?_)
          obtain ⟨rfl, rfl⟩ := hp
          refine lv_aload_n hx hb d_N_restore_69 rfl (lv_at hl 1 rfl) ?_
          refine gf_N_state C9 hW l_N_52 d_N_restore_70 ?_
          refine lv_iload_n hx hb d_N_restore_73 rfl (lv_at hl 3 rfl) ?_
          refine lv_iconst (v := 0) hx hb d_N_restore_74 (by decide) ?_
          obtain ⟨g11, hf⟩ := rd_g hf
          refine as_m_state C9 hW rfl g11 d_N_restore_75 (fun H locs hW => ?_)
          obtain ⟨M12, hM12, hf⟩ := rd_k_el hf
          rw [← hM12] at hW
          refine lv_aload_n hx hb d_N_restore_76 rfl (lv_at hl 1 rfl) ?_
          refine lv_aload_n hx hb d_N_restore_77 rfl (lv_at hl 1 rfl) ?_
          refine gf_N_expiry C9 hW l_N_43 d_N_restore_78 ?_
          refine lv_iload_n hx hb d_N_restore_81 rfl (lv_at hl 3 rfl) ?_
          obtain ⟨g13, hf⟩ := rd_g hf
          refine al_m_expiry C9 hW rfl g13 d_N_restore_82 ?_
          obtain ⟨r14, qr14, hf⟩ := rd_bind hf
          refine rd_callV (As := [.int ((M12 11).1 p2.toNatClampNeg)]) (rest := []) rd_gd C9 hTh hW (c_N_give hls ((M12 11).1 p2.toNatClampNeg) qr14) kc_N_give ki_N_give ks_N_give l_N_126 rfl (lt_N) (ce_N) rfl ⟨Nat.le_of_ble_eq_true rfl, Nat.le_of_ble_eq_true rfl⟩ ⟨Nat.le_of_ble_eq_true rfl, Nat.le_of_ble_eq_true rfl⟩ hl.1 rfl (Nat.le_of_ble_eq_true rfl) d_N_restore_83 (fun E _ _ _ _ hex => hex.elim) (fun rr MM H locs hp hW => ?_)
          obtain ⟨rfl, rfl⟩ := hp
          obtain rfl := Option.some.inj hf
          exact rd_iret C9 hlk hret hW ⟨rfl, rfl⟩ (by decide) (by decide) d_N_restore_86
        · have hf := rd_t hf c9
          refine lv_aload_n hx hb d_N_restore_54 rfl (lv_at hl 1 rfl) ?_
          refine lv_iconst (v := 4) hx hb d_N_restore_55 (by decide) ?_
          obtain ⟨r15, qr15, hf⟩ := rd_bind hf
          refine rd_callV (As := [.int 4]) (rest := []) rd_gd C9 hTh hW (c_N_fail hls 4 qr15) kc_N_fail ki_N_fail ks_N_fail l_N_122 rfl (lt_N) (ce_N) rfl ⟨Nat.le_of_ble_eq_true rfl, Nat.le_of_ble_eq_true rfl⟩ ⟨Nat.le_of_ble_eq_true rfl, Nat.le_of_ble_eq_true rfl⟩ hl.1 rfl (Nat.le_of_ble_eq_true rfl) d_N_restore_56 (fun E _ _ _ _ hex => hex.elim) (fun rr MM H locs hp hW => ?_)
          obtain ⟨rfl, rfl⟩ := hp
          obtain rfl := Option.some.inj hf
          exact rd_iret C9 hlk hret hW ⟨rfl, rfl⟩ (by decide) (by decide) d_N_restore_59
      · have hf := rd_f hf c7
        refine lv_aload_n hx hb d_N_restore_38 rfl (lv_at hl 1 rfl) ?_
        refine lv_iload_n hx hb d_N_restore_39 rfl (lv_at hl 0 rfl) ?_
        obtain ⟨r16, qr16, hf⟩ := rd_bind hf
        refine rd_callV (As := [.int r6]) (rest := []) rd_gd C9 hTh hW (c_N_fail hls r6 qr16) kc_N_fail ki_N_fail ks_N_fail l_N_122 rfl (lt_N) (ce_N) rfl ⟨Nat.le_of_ble_eq_true rfl, Nat.le_of_ble_eq_true rfl⟩ ⟨Nat.le_of_ble_eq_true rfl, Nat.le_of_ble_eq_true rfl⟩ hl.1 rfl (Nat.le_of_ble_eq_true rfl) d_N_restore_40 (fun E _ _ _ _ hex => hex.elim) (fun rr MM H locs hp hW => ?_)
        obtain ⟨rfl, rfl⟩ := hp
        obtain rfl := Option.some.inj hf
        exact rd_iret C9 hlk hret hW ⟨rfl, rfl⟩ (by decide) (by decide) d_N_restore_43
    · have hf := rd_t hf c5
      refine lv_aload_n hx hb d_N_restore_19 rfl (lv_at hl 0 rfl) ?_
      refine lv_iconst (v := 1) hx hb d_N_restore_20 (by decide) ?_
      obtain ⟨r17, qr17, hf⟩ := rd_bind hf
      refine rd_callV (As := [.int 1]) (rest := []) rd_gd C9 hTh hW (c_N_fail hls 1 qr17) kc_N_fail ki_N_fail ks_N_fail l_N_122 rfl (lt_N) (ce_N) rfl ⟨Nat.le_of_ble_eq_true rfl, Nat.le_of_ble_eq_true rfl⟩ ⟨Nat.le_of_ble_eq_true rfl, Nat.le_of_ble_eq_true rfl⟩ hl.1 rfl (Nat.le_of_ble_eq_true rfl) d_N_restore_21 (fun E _ _ _ _ hex => hex.elim) (fun rr MM H locs hp hW => ?_)
      obtain ⟨rfl, rfl⟩ := hp
      obtain rfl := Option.some.inj hf
      exact rd_iret C9 hlk hret hW ⟨rfl, rfl⟩ (by decide) (by decide) d_N_restore_24
def f_N_ask (M : rd_M) (p1 : Int32) (p2 : Int32) (p3 : Int32) : Option (Int32 × rd_M) :=
  (f_N_in M p1 0 3).bind fun r1 =>
  if r1 = 0 then
    (f_N_fail M 1).bind fun r3 =>
    some (r3.1, r3.2)
  else
    (f_N_in M p2 0 9).bind fun r4 =>
    if r4 = 0 then
      (f_N_fail M 1).bind fun r6 =>
      some (r6.1, r6.2)
    else
      (f_N_in M p3 0 99).bind fun r7 =>
      if r7 = 0 then
        (f_N_fail M 1).bind fun r35 =>
        some (r35.1, r35.2)
      else
        (f_N_noDomain M p2).bind fun r9 =>
        if r9 = 0 then
          if rd_in p2 10 then
          if ((M 10).1 p2.toNatClampNeg) = p1 then
            (f_N_fail M 3).bind fun r13 =>
            some (r13.1, r13.2)
          else
            if rd_in p2 10 then
            if ((M 12).1 p2.toNatClampNeg) = p3 then
              if rd_in p2 10 then
              if (((M 13).1 p2.toNatClampNeg) &&& 4) = 0 then
                if rd_in p2 10 then
                if ((M 14).1 p2.toNatClampNeg) = 0 then
                  if rd_in p2 10 then
                  if ((M 16).1 p2.toNatClampNeg) < 0 then
                    if rd_in p2 10 then
                    rd_k (rd_iU M 16 p2.toNatClampNeg p1) fun M25 =>
                    if rd_in p2 10 then
                    rd_k (rd_iU M25 17 p2.toNatClampNeg (((M25 0).1 1) + 4)) fun M27 =>
                    if rd_in p2 10 then
                    (f_N_tell M27 ((M27 10).1 p2.toNatClampNeg) 1 p2).bind fun r29 =>
                    if rd_in p2 10 then
                    (f_N_give r29 ((r29 17).1 p2.toNatClampNeg)).bind fun r31 =>
                    some (r31.1, r31.2)
                    else none
                    else none
                    else none
                    else none
                  else
                    (f_N_fail M 4).bind fun r32 =>
                    some (r32.1, r32.2)
                  else none
                else
                  (f_N_fail M 3).bind fun r33 =>
                  some (r33.1, r33.2)
                else none
              else
                (f_N_fail M 3).bind fun r19 =>
                some (r19.1, r19.2)
              else none
            else
              (f_N_fail M 3).bind fun r16 =>
              some (r16.1, r16.2)
            else none
          else none
        else
          (f_N_fail M 2).bind fun r34 =>
          some (r34.1, r34.2)
set_option maxRecDepth 100000 in
set_option maxHeartbeats 4000000 in
theorem c_N_ask {l : Launch} (hls : l.stackTraces = false) {D : va_G} {Ka : Nat → ClassId} {ad : Nat → Nat} {M : rd_M} (p1 : Int32) (p2 : Int32) (p3 : Int32)  {o : Int32 × rd_M} (hf : f_N_ask M p1 p2 p3 = some o) :
    rd_Met l y_N_ask b_N_ask 4 (some .int) (2, 45, 0, 0) rd_T rd_ss D rd_cl (rd_ty Ka) (rm_L Ka) ad M [.ref (ad 0), .int p1, .int p2, .int p3] (fun r M1 => r = some (.int o.1) ∧ o.2 = M1) (fun _ => False) := by
  refine rd_body (by decide) (Nat.le_of_ble_eq_true rfl) ?_
  intro p e s m below meth c C9 hlk hret hnt hTh hW ls hl
  have hx := C9.1.1
  have hb := C9.1.2.1
  have hl : lv_has ls 4 [(0, .ref (ad 0)), (1, .int p1), (2, .int p2), (3, .int p3)] := hl
  unfold f_N_ask at hf
  refine lv_iload_n hx hb d_N_ask_0 rfl (lv_at hl 1 rfl) ?_
  refine lv_iconst (v := 0) hx hb d_N_ask_1 (by decide) ?_
  refine lv_iconst (v := 3) hx hb d_N_ask_2 (by decide) ?_
  obtain ⟨r1, qr1, hf⟩ := rd_bind hf
  refine rd_callS (As := [.int p1, .int 0, .int 3]) (rest := []) rd_gd C9 hTh hW (c_N_in hls p1 0 3 qr1) kc_N_in ki_N_in l_N_116 rfl ⟨Nat.le_of_ble_eq_true rfl, Nat.le_of_ble_eq_true rfl⟩ ⟨Nat.le_of_ble_eq_true rfl, Nat.le_of_ble_eq_true rfl⟩ hl.1 rfl (Nat.le_of_ble_eq_true rfl) d_N_ask_3 (fun E _ _ _ _ hex => hex.elim) (fun rr MM H locs hp hW => ?_)
  obtain ⟨rfl, rfl⟩ := hp
  refine lv_if_eq (tgt := 29) hx hb d_N_ask_6 (by decide) (fun c2 => ?_) (fun c2 => ?_)
  · have hf := rd_t hf c2
    refine lv_aload_n hx hb d_N_ask_29 rfl (lv_at hl 0 rfl) ?_
    refine lv_iconst (v := 1) hx hb d_N_ask_30 (by decide) ?_
    obtain ⟨r3, qr3, hf⟩ := rd_bind hf
    refine rd_callV (As := [.int 1]) (rest := []) rd_gd C9 hTh hW (c_N_fail hls 1 qr3) kc_N_fail ki_N_fail ks_N_fail l_N_122 rfl (lt_N) (ce_N) rfl ⟨Nat.le_of_ble_eq_true rfl, Nat.le_of_ble_eq_true rfl⟩ ⟨Nat.le_of_ble_eq_true rfl, Nat.le_of_ble_eq_true rfl⟩ hl.1 rfl (Nat.le_of_ble_eq_true rfl) d_N_ask_31 (fun E _ _ _ _ hex => hex.elim) (fun rr MM H locs hp hW => ?_)
    obtain ⟨rfl, rfl⟩ := hp
    obtain rfl := Option.some.inj hf
    exact rd_iret C9 hlk hret hW ⟨rfl, rfl⟩ (by decide) (by decide) d_N_ask_34
  · have hf := rd_f hf c2
    refine lv_iload_n hx hb d_N_ask_9 rfl (lv_at hl 2 rfl) ?_
    refine lv_iconst (v := 0) hx hb d_N_ask_10 (by decide) ?_
    refine lv_bipush (v := 9) hx hb d_N_ask_11 (by decide) ?_
    obtain ⟨r4, qr4, hf⟩ := rd_bind hf
    refine rd_callS (As := [.int p2, .int 0, .int 9]) (rest := []) rd_gd C9 hTh hW (c_N_in hls p2 0 9 qr4) kc_N_in ki_N_in l_N_116 rfl ⟨Nat.le_of_ble_eq_true rfl, Nat.le_of_ble_eq_true rfl⟩ ⟨Nat.le_of_ble_eq_true rfl, Nat.le_of_ble_eq_true rfl⟩ hl.1 rfl (Nat.le_of_ble_eq_true rfl) d_N_ask_13 (fun E _ _ _ _ hex => hex.elim) (fun rr MM H locs hp hW => ?_)
    obtain ⟨rfl, rfl⟩ := hp
    refine lv_if_eq (tgt := 29) hx hb d_N_ask_16 (by decide) (fun c5 => ?_) (fun c5 => ?_)
    · have hf := rd_t hf c5
      refine lv_aload_n hx hb d_N_ask_29 rfl (lv_at hl 0 rfl) ?_
      refine lv_iconst (v := 1) hx hb d_N_ask_30 (by decide) ?_
      obtain ⟨r6, qr6, hf⟩ := rd_bind hf
      refine rd_callV (As := [.int 1]) (rest := []) rd_gd C9 hTh hW (c_N_fail hls 1 qr6) kc_N_fail ki_N_fail ks_N_fail l_N_122 rfl (lt_N) (ce_N) rfl ⟨Nat.le_of_ble_eq_true rfl, Nat.le_of_ble_eq_true rfl⟩ ⟨Nat.le_of_ble_eq_true rfl, Nat.le_of_ble_eq_true rfl⟩ hl.1 rfl (Nat.le_of_ble_eq_true rfl) d_N_ask_31 (fun E _ _ _ _ hex => hex.elim) (fun rr MM H locs hp hW => ?_)
      obtain ⟨rfl, rfl⟩ := hp
      obtain rfl := Option.some.inj hf
      exact rd_iret C9 hlk hret hW ⟨rfl, rfl⟩ (by decide) (by decide) d_N_ask_34
    · have hf := rd_f hf c5
      refine lv_iload_n hx hb d_N_ask_19 rfl (lv_at hl 3 rfl) ?_
      refine lv_iconst (v := 0) hx hb d_N_ask_20 (by decide) ?_
      refine lv_bipush (v := 99) hx hb d_N_ask_21 (by decide) ?_
      obtain ⟨r7, qr7, hf⟩ := rd_bind hf
      refine rd_callS (As := [.int p3, .int 0, .int 99]) (rest := []) rd_gd C9 hTh hW (c_N_in hls p3 0 99 qr7) kc_N_in ki_N_in l_N_116 rfl ⟨Nat.le_of_ble_eq_true rfl, Nat.le_of_ble_eq_true rfl⟩ ⟨Nat.le_of_ble_eq_true rfl, Nat.le_of_ble_eq_true rfl⟩ hl.1 rfl (Nat.le_of_ble_eq_true rfl) d_N_ask_23 (fun E _ _ _ _ hex => hex.elim) (fun rr MM H locs hp hW => ?_)
      obtain ⟨rfl, rfl⟩ := hp
      refine lv_if_ne (tgt := 35) hx hb d_N_ask_26 (by decide) (fun c8 => ?_) (fun c8 => ?_)
      · have hf := rd_f hf c8
        refine lv_aload_n hx hb d_N_ask_35 rfl (lv_at hl 0 rfl) ?_
        refine lv_iload_n hx hb d_N_ask_36 rfl (lv_at hl 2 rfl) ?_
        obtain ⟨r9, qr9, hf⟩ := rd_bind hf
        refine rd_callV (As := [.int p2]) (rest := []) rd_gd C9 hTh hW (c_N_noDomain hls p2 qr9) kc_N_noDomain ki_N_noDomain ks_N_noDomain l_N_133 rfl (lt_N) (ce_N) rfl ⟨Nat.le_of_ble_eq_true rfl, Nat.le_of_ble_eq_true rfl⟩ ⟨Nat.le_of_ble_eq_true rfl, Nat.le_of_ble_eq_true rfl⟩ hl.1 rfl (Nat.le_of_ble_eq_true rfl) d_N_ask_37 (fun E _ _ _ _ hex => hex.elim) (fun rr MM H locs hp hW => ?_)
        obtain ⟨rfl, rfl⟩ := hp
        refine lv_if_eq (tgt := 49) hx hb d_N_ask_40 (by decide) (fun c10 => ?_) (fun c10 => ?_)
        · have hf := rd_t hf c10
          refine lv_aload_n hx hb d_N_ask_49 rfl (lv_at hl 0 rfl) ?_
          refine gf_N_owner C9 hW l_N_40 d_N_ask_50 ?_
          refine lv_iload_n hx hb d_N_ask_53 rfl (lv_at hl 2 rfl) ?_
          obtain ⟨g11, hf⟩ := rd_g hf
          refine al_m_owner C9 hW rfl g11 d_N_ask_54 ?_
          refine lv_iload_n hx hb d_N_ask_55 rfl (lv_at hl 1 rfl) ?_
          refine lv_icmp_eq (tgt := 89) hx hb d_N_ask_56 (by decide) (fun c12 => ?_) (fun c12 => ?_)
          · have hf := rd_t hf c12
            refine lv_aload_n hx hb d_N_ask_89 rfl (lv_at hl 0 rfl) ?_
            refine lv_iconst (v := 3) hx hb d_N_ask_90 (by decide) ?_
            obtain ⟨r13, qr13, hf⟩ := rd_bind hf
            refine rd_callV (As := [.int 3]) (rest := []) rd_gd C9 hTh hW (c_N_fail hls 3 qr13) kc_N_fail ki_N_fail ks_N_fail l_N_122 rfl (lt_N) (ce_N) rfl ⟨Nat.le_of_ble_eq_true rfl, Nat.le_of_ble_eq_true rfl⟩ ⟨Nat.le_of_ble_eq_true rfl, Nat.le_of_ble_eq_true rfl⟩ hl.1 rfl (Nat.le_of_ble_eq_true rfl) d_N_ask_91 (fun E _ _ _ _ hex => hex.elim) (fun rr MM H locs hp hW => ?_)
            obtain ⟨rfl, rfl⟩ := hp
            obtain rfl := Option.some.inj hf
            exact rd_iret C9 hlk hret hW ⟨rfl, rfl⟩ (by decide) (by decide) d_N_ask_94
          · have hf := rd_f hf c12
            refine lv_aload_n hx hb d_N_ask_59 rfl (lv_at hl 0 rfl) ?_
            refine gf_N_code C9 hW l_N_46 d_N_ask_60 ?_
            refine lv_iload_n hx hb d_N_ask_63 rfl (lv_at hl 2 rfl) ?_
            obtain ⟨g14, hf⟩ := rd_g hf
            refine al_m_code C9 hW rfl g14 d_N_ask_64 ?_
            refine lv_iload_n hx hb d_N_ask_65 rfl (lv_at hl 3 rfl) ?_
            refine lv_icmp_ne (tgt := 89) hx hb d_N_ask_66 (by decide) (fun c15 => ?_) (fun c15 => ?_)
            · have hf := rd_f hf c15
              refine lv_aload_n hx hb d_N_ask_89 rfl (lv_at hl 0 rfl) ?_
              refine lv_iconst (v := 3) hx hb d_N_ask_90 (by decide) ?_
              obtain ⟨r16, qr16, hf⟩ := rd_bind hf
              refine rd_callV (As := [.int 3]) (rest := []) rd_gd C9 hTh hW (c_N_fail hls 3 qr16) kc_N_fail ki_N_fail ks_N_fail l_N_122 rfl (lt_N) (ce_N) rfl ⟨Nat.le_of_ble_eq_true rfl, Nat.le_of_ble_eq_true rfl⟩ ⟨Nat.le_of_ble_eq_true rfl, Nat.le_of_ble_eq_true rfl⟩ hl.1 rfl (Nat.le_of_ble_eq_true rfl) d_N_ask_91 (fun E _ _ _ _ hex => hex.elim) (fun rr MM H locs hp hW => ?_)
              obtain ⟨rfl, rfl⟩ := hp
              obtain rfl := Option.some.inj hf
              exact rd_iret C9 hlk hret hW ⟨rfl, rfl⟩ (by decide) (by decide) d_N_ask_94
            · have hf := rd_t hf c15
              refine lv_aload_n hx hb d_N_ask_69 rfl (lv_at hl 0 rfl) ?_
              refine gf_N_locks C9 hW l_N_49 d_N_ask_70 ?_
              refine lv_iload_n hx hb d_N_ask_73 rfl (lv_at hl 2 rfl) ?_
              obtain ⟨g17, hf⟩ := rd_g hf
              refine al_m_locks C9 hW rfl g17 d_N_ask_74 ?_
              refine lv_iconst (v := 4) hx hb d_N_ask_75 (by decide) ?_
              refine lv_iand hx hb d_N_ask_76 ?_
              refine lv_if_ne (tgt := 89) hx hb d_N_ask_77 (by decide) (fun c18 => ?_) (fun c18 => ?_)
              · have hf := rd_f hf c18
                refine lv_aload_n hx hb d_N_ask_89 rfl (lv_at hl 0 rfl) ?_
                refine lv_iconst (v := 3) hx hb d_N_ask_90 (by decide) ?_
                obtain ⟨r19, qr19, hf⟩ := rd_bind hf
                refine rd_callV (As := [.int 3]) (rest := []) rd_gd C9 hTh hW (c_N_fail hls 3 qr19) kc_N_fail ki_N_fail ks_N_fail l_N_122 rfl (lt_N) (ce_N) rfl ⟨Nat.le_of_ble_eq_true rfl, Nat.le_of_ble_eq_true rfl⟩ ⟨Nat.le_of_ble_eq_true rfl, Nat.le_of_ble_eq_true rfl⟩ hl.1 rfl (Nat.le_of_ble_eq_true rfl) d_N_ask_91 (fun E _ _ _ _ hex => hex.elim) (fun rr MM H locs hp hW => ?_)
                obtain ⟨rfl, rfl⟩ := hp
                obtain rfl := Option.some.inj hf
                exact rd_iret C9 hlk hret hW ⟨rfl, rfl⟩ (by decide) (by decide) d_N_ask_94
              · have hf := rd_t hf c18
                refine lv_aload_n hx hb d_N_ask_80 rfl (lv_at hl 0 rfl) ?_
                refine gf_N_state C9 hW l_N_52 d_N_ask_81 ?_
                refine lv_iload_n hx hb d_N_ask_84 rfl (lv_at hl 2 rfl) ?_
                obtain ⟨g20, hf⟩ := rd_g hf
                refine al_m_state C9 hW rfl g20 d_N_ask_85 ?_
                refine lv_if_eq (tgt := 95) hx hb d_N_ask_86 (by decide) (fun c21 => ?_) (fun c21 => ?_)
                · have hf := rd_t hf c21
                  refine lv_aload_n hx hb d_N_ask_95 rfl (lv_at hl 0 rfl) ?_
                  refine gf_N_wants C9 hW l_N_58 d_N_ask_96 ?_
                  refine lv_iload_n hx hb d_N_ask_99 rfl (lv_at hl 2 rfl) ?_
                  obtain ⟨g22, hf⟩ := rd_g hf
                  refine al_m_wants C9 hW rfl g22 d_N_ask_100 ?_
                  refine lv_if_lt (tgt := 110) hx hb d_N_ask_101 (by decide) (fun c23 => ?_) (fun c23 => ?_)
                  · have hf := rd_t hf c23
                    refine lv_aload_n hx hb d_N_ask_110 rfl (lv_at hl 0 rfl) ?_
                    refine gf_N_wants C9 hW l_N_58 d_N_ask_111 ?_
                    refine lv_iload_n hx hb d_N_ask_114 rfl (lv_at hl 2 rfl) ?_
                    refine lv_iload_n hx hb d_N_ask_115 rfl (lv_at hl 1 rfl) ?_
                    obtain ⟨g24, hf⟩ := rd_g hf
                    refine as_m_wants C9 hW rfl g24 d_N_ask_116 (fun H locs hW => ?_)
                    obtain ⟨M25, hM25, hf⟩ := rd_k_el hf
                    rw [← hM25] at hW
                    refine lv_aload_n hx hb d_N_ask_117 rfl (lv_at hl 0 rfl) ?_
                    refine gf_N_till C9 hW l_N_61 d_N_ask_118 ?_
                    refine lv_iload_n hx hb d_N_ask_121 rfl (lv_at hl 2 rfl) ?_
                    refine lv_aload_n hx hb d_N_ask_122 rfl (lv_at hl 0 rfl) ?_
                    refine gf_N_day C9 hW l_N_98 d_N_ask_123 ?_
                    refine lv_iconst (v := 4) hx hb d_N_ask_126 (by decide) ?_
                    refine lv_iadd hx hb d_N_ask_127 ?_
                    obtain ⟨g26, hf⟩ := rd_g hf
                    refine as_m_till C9 hW rfl g26 d_N_ask_128 (fun H locs hW => ?_)
                    obtain ⟨M27, hM27, hf⟩ := rd_k_el hf
                    rw [← hM27] at hW
                    refine lv_aload_n hx hb d_N_ask_129 rfl (lv_at hl 0 rfl) ?_
                    refine lv_aload_n hx hb d_N_ask_130 rfl (lv_at hl 0 rfl) ?_
                    refine gf_N_owner C9 hW l_N_40 d_N_ask_131 ?_
                    refine lv_iload_n hx hb d_N_ask_134 rfl (lv_at hl 2 rfl) ?_
                    obtain ⟨g28, hf⟩ := rd_g hf
                    refine al_m_owner C9 hW rfl g28 d_N_ask_135 ?_
                    refine lv_iconst (v := 1) hx hb d_N_ask_136 (by decide) ?_
                    refine lv_iload_n hx hb d_N_ask_137 rfl (lv_at hl 2 rfl) ?_
                    obtain ⟨r29, qr29, hf⟩ := rd_bind hf
                    refine rd_callV (As := [.int ((M27 10).1 p2.toNatClampNeg), .int 1, .int p2]) (rest := []) rd_gd C9 hTh hW (c_N_tell hls ((M27 10).1 p2.toNatClampNeg) 1 p2 qr29) kc_N_tell ki_N_tell ks_N_tell l_N_171 rfl (lt_N) (ce_N) rfl ⟨Nat.le_of_ble_eq_true rfl, Nat.le_of_ble_eq_true rfl⟩ ⟨Nat.le_of_ble_eq_true rfl, Nat.le_of_ble_eq_true rfl⟩ hl.1 rfl (Nat.le_of_ble_eq_true rfl) d_N_ask_138 (fun E _ _ _ _ hex => hex.elim) (fun rr MM H locs hp hW => ?_)
                    obtain ⟨rfl, rfl⟩ := hp
                    refine lv_aload_n hx hb d_N_ask_141 rfl (lv_at hl 0 rfl) ?_
                    refine lv_aload_n hx hb d_N_ask_142 rfl (lv_at hl 0 rfl) ?_
                    refine gf_N_till C9 hW l_N_61 d_N_ask_143 ?_
                    refine lv_iload_n hx hb d_N_ask_146 rfl (lv_at hl 2 rfl) ?_
                    obtain ⟨g30, hf⟩ := rd_g hf
                    refine al_m_till C9 hW rfl g30 d_N_ask_147 ?_
                    obtain ⟨r31, qr31, hf⟩ := rd_bind hf
                    refine rd_callV (As := [.int ((r29 17).1 p2.toNatClampNeg)]) (rest := []) rd_gd C9 hTh hW (c_N_give hls ((r29 17).1 p2.toNatClampNeg) qr31) kc_N_give ki_N_give ks_N_give l_N_126 rfl (lt_N) (ce_N) rfl ⟨Nat.le_of_ble_eq_true rfl, Nat.le_of_ble_eq_true rfl⟩ ⟨Nat.le_of_ble_eq_true rfl, Nat.le_of_ble_eq_true rfl⟩ hl.1 rfl (Nat.le_of_ble_eq_true rfl) d_N_ask_148 (fun E _ _ _ _ hex => hex.elim) (fun rr MM H locs hp hW => ?_)
                    obtain ⟨rfl, rfl⟩ := hp
                    obtain rfl := Option.some.inj hf
                    exact rd_iret C9 hlk hret hW ⟨rfl, rfl⟩ (by decide) (by decide) d_N_ask_151
                  · have hf := rd_f hf c23
                    refine lv_aload_n hx hb d_N_ask_104 rfl (lv_at hl 0 rfl) ?_
                    refine lv_iconst (v := 4) hx hb d_N_ask_105 (by decide) ?_
                    obtain ⟨r32, qr32, hf⟩ := rd_bind hf
                    refine rd_callV (As := [.int 4]) (rest := []) rd_gd C9 hTh hW (c_N_fail hls 4 qr32) kc_N_fail ki_N_fail ks_N_fail l_N_122 rfl (lt_N) (ce_N) rfl ⟨Nat.le_of_ble_eq_true rfl, Nat.le_of_ble_eq_true rfl⟩ ⟨Nat.le_of_ble_eq_true rfl, Nat.le_of_ble_eq_true rfl⟩ hl.1 rfl (Nat.le_of_ble_eq_true rfl) d_N_ask_106 (fun E _ _ _ _ hex => hex.elim) (fun rr MM H locs hp hW => ?_)
                    obtain ⟨rfl, rfl⟩ := hp
                    obtain rfl := Option.some.inj hf
                    exact rd_iret C9 hlk hret hW ⟨rfl, rfl⟩ (by decide) (by decide) d_N_ask_109
                · have hf := rd_f hf c21
                  refine lv_aload_n hx hb d_N_ask_89 rfl (lv_at hl 0 rfl) ?_
                  refine lv_iconst (v := 3) hx hb d_N_ask_90 (by decide) ?_
                  obtain ⟨r33, qr33, hf⟩ := rd_bind hf
                  refine rd_callV (As := [.int 3]) (rest := []) rd_gd C9 hTh hW (c_N_fail hls 3 qr33) kc_N_fail ki_N_fail ks_N_fail l_N_122 rfl (lt_N) (ce_N) rfl ⟨Nat.le_of_ble_eq_true rfl, Nat.le_of_ble_eq_true rfl⟩ ⟨Nat.le_of_ble_eq_true rfl, Nat.le_of_ble_eq_true rfl⟩ hl.1 rfl (Nat.le_of_ble_eq_true rfl) d_N_ask_91 (fun E _ _ _ _ hex => hex.elim) (fun rr MM H locs hp hW => ?_)
                  obtain ⟨rfl, rfl⟩ := hp
                  obtain rfl := Option.some.inj hf
                  exact rd_iret C9 hlk hret hW ⟨rfl, rfl⟩ (by decide) (by decide) d_N_ask_94
        · have hf := rd_f hf c10
          refine lv_aload_n hx hb d_N_ask_43 rfl (lv_at hl 0 rfl) ?_
          refine lv_iconst (v := 2) hx hb d_N_ask_44 (by decide) ?_
          obtain ⟨r34, qr34, hf⟩ := rd_bind hf
          refine rd_callV (As := [.int 2]) (rest := []) rd_gd C9 hTh hW (c_N_fail hls 2 qr34) kc_N_fail ki_N_fail ks_N_fail l_N_122 rfl (lt_N) (ce_N) rfl ⟨Nat.le_of_ble_eq_true rfl, Nat.le_of_ble_eq_true rfl⟩ ⟨Nat.le_of_ble_eq_true rfl, Nat.le_of_ble_eq_true rfl⟩ hl.1 rfl (Nat.le_of_ble_eq_true rfl) d_N_ask_45 (fun E _ _ _ _ hex => hex.elim) (fun rr MM H locs hp hW => ?_)
          obtain ⟨rfl, rfl⟩ := hp
          obtain rfl := Option.some.inj hf
          exact rd_iret C9 hlk hret hW ⟨rfl, rfl⟩ (by decide) (by decide) d_N_ask_48
      · have hf := rd_t hf c8
        refine lv_aload_n hx hb d_N_ask_29 rfl (lv_at hl 0 rfl) ?_
        refine lv_iconst (v := 1) hx hb d_N_ask_30 (by decide) ?_
        obtain ⟨r35, qr35, hf⟩ := rd_bind hf
        refine rd_callV (As := [.int 1]) (rest := []) rd_gd C9 hTh hW (c_N_fail hls 1 qr35) kc_N_fail ki_N_fail ks_N_fail l_N_122 rfl (lt_N) (ce_N) rfl ⟨Nat.le_of_ble_eq_true rfl, Nat.le_of_ble_eq_true rfl⟩ ⟨Nat.le_of_ble_eq_true rfl, Nat.le_of_ble_eq_true rfl⟩ hl.1 rfl (Nat.le_of_ble_eq_true rfl) d_N_ask_31 (fun E _ _ _ _ hex => hex.elim) (fun rr MM H locs hp hW => ?_)
        obtain ⟨rfl, rfl⟩ := hp
        obtain rfl := Option.some.inj hf
        exact rd_iret C9 hlk hret hW ⟨rfl, rfl⟩ (by decide) (by decide) d_N_ask_34
