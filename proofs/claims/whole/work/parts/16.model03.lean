def f_N_barred (M : rd_M) (p1 : Int32) (p2 : Int32) (p3 : Int32) (p4 : Int32) : Option (Int32) :=
  (f_N_noDomain M p2).bind fun r1 =>
  if r1 = 0 then
    if rd_in p2 10 then
    if ((M 10).1 p2.toNatClampNeg) = p1 then
      if rd_in p2 10 then
      if (((M 13).1 p2.toNatClampNeg) &&& p3) = 0 then
        if rd_in p2 10 then
        rd_k (if ((M 14).1 p2.toNatClampNeg) = p4 then 0 else 3 : Int32) fun z9 =>
        some z9
        else none
      else
        some 3
      else none
    else
      some 3
    else none
  else
    some 2
set_option maxRecDepth 100000 in
set_option maxHeartbeats 4000000 in
theorem c_N_barred {l : Launch} (hls : l.stackTraces = false) {D : va_G} {Ka : Nat → ClassId} {ad : Nat → Nat} {M : rd_M} (p1 : Int32) (p2 : Int32) (p3 : Int32) (p4 : Int32)  {o : Int32} (hf : f_N_barred M p1 p2 p3 p4 = some o) :
    rd_Met l y_N_barred b_N_barred 5 (some .int) (1, 21, 0, 0) rd_T rd_ss D rd_cl (rd_ty Ka) (rm_L Ka) ad M [.ref (ad 0), .int p1, .int p2, .int p3, .int p4] (fun r M1 => r = some (.int o) ∧ M = M1) (fun _ => False) := by
  refine rd_body (by decide) (Nat.le_of_ble_eq_true rfl) ?_
  intro p e s m below meth c C9 hlk hret hnt hTh hW ls hl
  have hx := C9.1.1
  have hb := C9.1.2.1
  have hl : lv_has ls 5 [(0, .ref (ad 0)), (1, .int p1), (2, .int p2), (3, .int p3), (4, .int p4)] := hl
  unfold f_N_barred at hf
  refine lv_aload_n hx hb d_N_barred_0 rfl (lv_at hl 0 rfl) ?_
  refine lv_iload_n hx hb d_N_barred_1 rfl (lv_at hl 2 rfl) ?_
  obtain ⟨r1, qr1, hf⟩ := rd_bind hf
  refine rd_callV (As := [.int p2]) (rest := []) rd_gd C9 hTh hW (c_N_noDomain hls p2 qr1) kc_N_noDomain ki_N_noDomain ks_N_noDomain l_N_133 rfl (lt_N) (ce_N) rfl ⟨Nat.le_of_ble_eq_true rfl, Nat.le_of_ble_eq_true rfl⟩ ⟨Nat.le_of_ble_eq_true rfl, Nat.le_of_ble_eq_true rfl⟩ hl.1 rfl (Nat.le_of_ble_eq_true rfl) d_N_barred_2 (fun E _ _ _ _ hex => hex.elim) (fun rr MM H locs hp hW => ?_)
  obtain ⟨rfl, rfl⟩ := hp
  refine lv_if_eq (tgt := 10) hx hb d_N_barred_5 (by decide) (fun c2 => ?_) (fun c2 => ?_)
  · have hf := rd_t hf c2
    refine lv_aload_n hx hb d_N_barred_10 rfl (lv_at hl 0 rfl) ?_
    refine gf_N_owner C9 hW l_N_40 d_N_barred_11 ?_
    refine lv_iload_n hx hb d_N_barred_14 rfl (lv_at hl 2 rfl) ?_
    obtain ⟨g3, hf⟩ := rd_g hf
    refine al_m_owner C9 hW rfl g3 d_N_barred_15 ?_
    refine lv_iload_n hx hb d_N_barred_16 rfl (lv_at hl 1 rfl) ?_
    refine lv_icmp_ne (tgt := 42) hx hb d_N_barred_17 (by decide) (fun c4 => ?_) (fun c4 => ?_)
    · have hf := rd_f hf c4
      refine lv_iconst (v := 3) hx hb d_N_barred_42 (by decide) ?_
      refine lv_goto (tgt := 47) hx hb d_N_barred_43 (by decide) ?_
      obtain rfl := Option.some.inj hf
      exact rd_iret C9 hlk hret hW ⟨rfl, rfl⟩ (by decide) (by decide) d_N_barred_47
    · have hf := rd_t hf c4
      refine lv_aload_n hx hb d_N_barred_20 rfl (lv_at hl 0 rfl) ?_
      refine gf_N_locks C9 hW l_N_49 d_N_barred_21 ?_
      refine lv_iload_n hx hb d_N_barred_24 rfl (lv_at hl 2 rfl) ?_
      obtain ⟨g5, hf⟩ := rd_g hf
      refine al_m_locks C9 hW rfl g5 d_N_barred_25 ?_
      refine lv_iload_n hx hb d_N_barred_26 rfl (lv_at hl 3 rfl) ?_
      refine lv_iand hx hb d_N_barred_27 ?_
      refine lv_if_ne (tgt := 42) hx hb d_N_barred_28 (by decide) (fun c6 => ?_) (fun c6 => ?_)
      · have hf := rd_f hf c6
        refine lv_iconst (v := 3) hx hb d_N_barred_42 (by decide) ?_
        refine lv_goto (tgt := 47) hx hb d_N_barred_43 (by decide) ?_
        obtain rfl := Option.some.inj hf
        exact rd_iret C9 hlk hret hW ⟨rfl, rfl⟩ (by decide) (by decide) d_N_barred_47
      · have hf := rd_t hf c6
        refine lv_aload_n hx hb d_N_barred_31 rfl (lv_at hl 0 rfl) ?_
        refine gf_N_state C9 hW l_N_52 d_N_barred_32 ?_
        refine lv_iload_n hx hb d_N_barred_35 rfl (lv_at hl 2 rfl) ?_
        obtain ⟨g7, hf⟩ := rd_g hf
        refine al_m_state C9 hW rfl g7 d_N_barred_36 ?_
        refine lv_iload hx hb d_N_barred_37 (lv_at hl 4 rfl) ?_
        obtain ⟨z9, hz9, hf⟩ := rd_k_el hf
        refine rd_sel z9 (fun z => F0 m 47 ls (.int z :: [])) hz9 (fun hJ => ?_) ?_
        · refine lv_icmp_eq (tgt := 46) hx hb d_N_barred_39 (by decide) (fun c8 => ?_) (fun c8 => ?_)
          · have hJ := rd_selt (g := (fun z => F0 m 47 ls (.int z :: []))) hJ c8
            refine lv_iconst (v := 0) hx hb d_N_barred_46 (by decide) ?_
            exact hJ
          · have hJ := rd_self (g := (fun z => F0 m 47 ls (.int z :: []))) hJ c8
            refine lv_iconst (v := 3) hx hb d_N_barred_42 (by decide) ?_
            refine lv_goto (tgt := 47) hx hb d_N_barred_43 (by decide) ?_
            exact hJ
        obtain rfl := Option.some.inj hf
        exact rd_iret C9 hlk hret hW ⟨rfl, rfl⟩ (by decide) (by decide) d_N_barred_47
  · have hf := rd_f hf c2
    refine lv_iconst (v := 2) hx hb d_N_barred_8 (by decide) ?_
    obtain rfl := Option.some.inj hf
    exact rd_iret C9 hlk hret hW ⟨rfl, rfl⟩ (by decide) (by decide) d_N_barred_9
def f_N_create (M : rd_M) (p1 : Int32) (p2 : Int32) (p3 : Int32) (p4 : Int32) (p5 : Int32) : Option (Int32 × rd_M) :=
  (f_N_in M p1 0 3).bind fun r1 =>
  if r1 = 0 then
    (f_N_fail M 1).bind fun r3 =>
    some (r3.1, r3.2)
  else
    (f_N_in M p2 0 9).bind fun r4 =>
    if r4 = 0 then
      (f_N_fail M 1).bind fun r6 =>
      some (r6.1, r6.2)
    else
      (f_N_in M p3 1 3).bind fun r7 =>
      if r7 = 0 then
        (f_N_fail M 1).bind fun r9 =>
        some (r9.1, r9.2)
      else
        (f_N_in M p4 0 99).bind fun r10 =>
        if r10 = 0 then
          (f_N_fail M 1).bind fun r43 =>
          some (r43.1, r43.2)
        else
          (f_N_noThing M 0 p5).bind fun r12 =>
          if r12 = 0 then
            (f_N_noDomain M p2).bind fun r14 =>
            if r14 = 0 then
              (f_N_fail M 4).bind fun r16 =>
              some (r16.1, r16.2)
            else
              (f_N_canPay M p1 0 p3).bind fun r17 =>
              if r17 = 0 then
                (f_N_fail M 4).bind fun r41 =>
                some (r41.1, r41.2)
              else
                (f_N_noGrace M p2).bind fun r19 =>
                (f_N_pay r19 p1 0 p3 p2 0).bind fun r20 =>
                if rd_in p2 10 then
                rd_k (rd_iU r20 10 p2.toNatClampNeg p1) fun M22 =>
                if rd_in p2 10 then
                rd_k (rd_iU M22 11 p2.toNatClampNeg (((M22 0).1 1) + (10 * p3))) fun M24 =>
                if rd_in p2 10 then
                rd_k (rd_iU M24 12 p2.toNatClampNeg p4) fun M26 =>
                if rd_in p2 10 then
                rd_k (rd_iU M26 13 p2.toNatClampNeg 0) fun M28 =>
                if rd_in p2 10 then
                rd_k (rd_iU M28 14 p2.toNatClampNeg 0) fun M30 =>
                if rd_in p2 10 then
                rd_k (rd_iU M30 16 p2.toNatClampNeg (-1)) fun M32 =>
                if rd_in (6 * p2) 60 then
                rd_k (rd_iU M32 18 ((6 * p2).toNatClampNeg) p5) fun M34 =>
                if rd_in (2 * p2) 20 then
                rd_k (rd_iU M34 19 ((2 * p2).toNatClampNeg) 1) fun M36 =>
                if rd_in ((2 * p2) + 1) 20 then
                rd_k (rd_iU M36 19 (((2 * p2) + 1).toNatClampNeg) 0) fun M38 =>
                if rd_in p2 10 then
                (f_N_give M38 ((M38 11).1 p2.toNatClampNeg)).bind fun r40 =>
                some (r40.1, r40.2)
                else none
                else none
                else none
                else none
                else none
                else none
                else none
                else none
                else none
                else none
          else
            (f_N_fail M 2).bind fun r42 =>
            some (r42.1, r42.2)
set_option maxRecDepth 100000 in
set_option maxHeartbeats 4000000 in
theorem c_N_create {l : Launch} (hls : l.stackTraces = false) {D : va_G} {Ka : Nat → ClassId} {ad : Nat → Nat} {M : rd_M} (p1 : Int32) (p2 : Int32) (p3 : Int32) (p4 : Int32) (p5 : Int32)  {o : Int32 × rd_M} (hf : f_N_create M p1 p2 p3 p4 p5 = some o) :
    rd_Met l y_N_create b_N_create 6 (some .int) (2, 52, 0, 0) rd_T rd_ss D rd_cl (rd_ty Ka) (rm_L Ka) ad M [.ref (ad 0), .int p1, .int p2, .int p3, .int p4, .int p5] (fun r M1 => r = some (.int o.1) ∧ o.2 = M1) (fun _ => False) := by
  refine rd_body (by decide) (Nat.le_of_ble_eq_true rfl) ?_
  intro p e s m below meth c C9 hlk hret hnt hTh hW ls hl
  have hx := C9.1.1
  have hb := C9.1.2.1
  have hl : lv_has ls 6 [(0, .ref (ad 0)), (1, .int p1), (2, .int p2), (3, .int p3), (4, .int p4), (5, .int p5)] := hl
  unfold f_N_create at hf
  refine lv_iload_n hx hb d_N_create_0 rfl (lv_at hl 1 rfl) ?_
  refine lv_iconst (v := 0) hx hb d_N_create_1 (by decide) ?_
  refine lv_iconst (v := 3) hx hb d_N_create_2 (by decide) ?_
  obtain ⟨r1, qr1, hf⟩ := rd_bind hf
  refine rd_callS (As := [.int p1, .int 0, .int 3]) (rest := []) rd_gd C9 hTh hW (c_N_in hls p1 0 3 qr1) kc_N_in ki_N_in l_N_116 rfl ⟨Nat.le_of_ble_eq_true rfl, Nat.le_of_ble_eq_true rfl⟩ ⟨Nat.le_of_ble_eq_true rfl, Nat.le_of_ble_eq_true rfl⟩ hl.1 rfl (Nat.le_of_ble_eq_true rfl) d_N_create_3 (fun E _ _ _ _ hex => hex.elim) (fun rr MM H locs hp hW => ?_)
  obtain ⟨rfl, rfl⟩ := hp
  refine lv_if_eq (tgt := 39) hx hb d_N_create_6 (by decide) (fun c2 => ?_) (fun c2 => ?_)
  · have hf := rd_t hf c2
    refine lv_aload_n hx hb d_N_create_39 rfl (lv_at hl 0 rfl) ?_
    refine lv_iconst (v := 1) hx hb d_N_create_40 (by decide) ?_
    obtain ⟨r3, qr3, hf⟩ := rd_bind hf
    refine rd_callV (As := [.int 1]) (rest := []) rd_gd C9 hTh hW (c_N_fail hls 1 qr3) kc_N_fail ki_N_fail ks_N_fail l_N_122 rfl (lt_N) (ce_N) rfl ⟨Nat.le_of_ble_eq_true rfl, Nat.le_of_ble_eq_true rfl⟩ ⟨Nat.le_of_ble_eq_true rfl, Nat.le_of_ble_eq_true rfl⟩ hl.1 rfl (Nat.le_of_ble_eq_true rfl) d_N_create_41 (fun E _ _ _ _ hex => hex.elim) (fun rr MM H locs hp hW => ?_)
    obtain ⟨rfl, rfl⟩ := hp
    obtain rfl := Option.some.inj hf
    exact rd_iret C9 hlk hret hW ⟨rfl, rfl⟩ (by decide) (by decide) d_N_create_44
  · have hf := rd_f hf c2
    refine lv_iload_n hx hb d_N_create_9 rfl (lv_at hl 2 rfl) ?_
    refine lv_iconst (v := 0) hx hb d_N_create_10 (by decide) ?_
    refine lv_bipush (v := 9) hx hb d_N_create_11 (by decide) ?_
    obtain ⟨r4, qr4, hf⟩ := rd_bind hf
    refine rd_callS (As := [.int p2, .int 0, .int 9]) (rest := []) rd_gd C9 hTh hW (c_N_in hls p2 0 9 qr4) kc_N_in ki_N_in l_N_116 rfl ⟨Nat.le_of_ble_eq_true rfl, Nat.le_of_ble_eq_true rfl⟩ ⟨Nat.le_of_ble_eq_true rfl, Nat.le_of_ble_eq_true rfl⟩ hl.1 rfl (Nat.le_of_ble_eq_true rfl) d_N_create_13 (fun E _ _ _ _ hex => hex.elim) (fun rr MM H locs hp hW => ?_)
    obtain ⟨rfl, rfl⟩ := hp
    refine lv_if_eq (tgt := 39) hx hb d_N_create_16 (by decide) (fun c5 => ?_) (fun c5 => ?_)
    · have hf := rd_t hf c5
      refine lv_aload_n hx hb d_N_create_39 rfl (lv_at hl 0 rfl) ?_
      refine lv_iconst (v := 1) hx hb d_N_create_40 (by decide) ?_
      obtain ⟨r6, qr6, hf⟩ := rd_bind hf
      refine rd_callV (As := [.int 1]) (rest := []) rd_gd C9 hTh hW (c_N_fail hls 1 qr6) kc_N_fail ki_N_fail ks_N_fail l_N_122 rfl (lt_N) (ce_N) rfl ⟨Nat.le_of_ble_eq_true rfl, Nat.le_of_ble_eq_true rfl⟩ ⟨Nat.le_of_ble_eq_true rfl, Nat.le_of_ble_eq_true rfl⟩ hl.1 rfl (Nat.le_of_ble_eq_true rfl) d_N_create_41 (fun E _ _ _ _ hex => hex.elim) (fun rr MM H locs hp hW => ?_)
      obtain ⟨rfl, rfl⟩ := hp
      obtain rfl := Option.some.inj hf
      exact rd_iret C9 hlk hret hW ⟨rfl, rfl⟩ (by decide) (by decide) d_N_create_44
    · have hf := rd_f hf c5
      refine lv_iload_n hx hb d_N_create_19 rfl (lv_at hl 3 rfl) ?_
      refine lv_iconst (v := 1) hx hb d_N_create_20 (by decide) ?_
      refine lv_iconst (v := 3) hx hb d_N_create_21 (by decide) ?_
      obtain ⟨r7, qr7, hf⟩ := rd_bind hf
      refine rd_callS (As := [.int p3, .int 1, .int 3]) (rest := []) rd_gd C9 hTh hW (c_N_in hls p3 1 3 qr7) kc_N_in ki_N_in l_N_116 rfl ⟨Nat.le_of_ble_eq_true rfl, Nat.le_of_ble_eq_true rfl⟩ ⟨Nat.le_of_ble_eq_true rfl, Nat.le_of_ble_eq_true rfl⟩ hl.1 rfl (Nat.le_of_ble_eq_true rfl) d_N_create_22 (fun E _ _ _ _ hex => hex.elim) (fun rr MM H locs hp hW => ?_)
      obtain ⟨rfl, rfl⟩ := hp
      refine lv_if_eq (tgt := 39) hx hb d_N_create_25 (by decide) (fun c8 => ?_) (fun c8 => ?_)
      · have hf := rd_t hf c8
        refine lv_aload_n hx hb d_N_create_39 rfl (lv_at hl 0 rfl) ?_
        refine lv_iconst (v := 1) hx hb d_N_create_40 (by decide) ?_
        obtain ⟨r9, qr9, hf⟩ := rd_bind hf
        refine rd_callV (As := [.int 1]) (rest := []) rd_gd C9 hTh hW (c_N_fail hls 1 qr9) kc_N_fail ki_N_fail ks_N_fail l_N_122 rfl (lt_N) (ce_N) rfl ⟨Nat.le_of_ble_eq_true rfl, Nat.le_of_ble_eq_true rfl⟩ ⟨Nat.le_of_ble_eq_true rfl, Nat.le_of_ble_eq_true rfl⟩ hl.1 rfl (Nat.le_of_ble_eq_true rfl) d_N_create_41 (fun E _ _ _ _ hex => hex.elim) (fun rr MM H locs hp hW => ?_)
        obtain ⟨rfl, rfl⟩ := hp
        obtain rfl := Option.some.inj hf
        exact rd_iret C9 hlk hret hW ⟨rfl, rfl⟩ (by decide) (by decide) d_N_create_44
      · have hf := rd_f hf c8
        refine lv_iload hx hb d_N_create_28 (lv_at hl 4 rfl) ?_
        refine lv_iconst (v := 0) hx hb d_N_create_30 (by decide) ?_
        refine lv_bipush (v := 99) hx hb d_N_create_31 (by decide) ?_
        obtain ⟨r10, qr10, hf⟩ := rd_bind hf
        refine rd_callS (As := [.int p4, .int 0, .int 99]) (rest := []) rd_gd C9 hTh hW (c_N_in hls p4 0 99 qr10) kc_N_in ki_N_in l_N_116 rfl ⟨Nat.le_of_ble_eq_true rfl, Nat.le_of_ble_eq_true rfl⟩ ⟨Nat.le_of_ble_eq_true rfl, Nat.le_of_ble_eq_true rfl⟩ hl.1 rfl (Nat.le_of_ble_eq_true rfl) d_N_create_33 (fun E _ _ _ _ hex => hex.elim) (fun rr MM H locs hp hW => ?_)
        obtain ⟨rfl, rfl⟩ := hp
        refine lv_if_ne (tgt := 45) hx hb d_N_create_36 (by decide) (fun c11 => ?_) (fun c11 => ?_)
        · have hf := rd_f hf c11
          refine lv_aload_n hx hb d_N_create_45 rfl (lv_at hl 0 rfl) ?_
          refine lv_iconst (v := 0) hx hb d_N_create_46 (by decide) ?_
          refine lv_iload hx hb d_N_create_47 (lv_at hl 5 rfl) ?_
          obtain ⟨r12, qr12, hf⟩ := rd_bind hf
          refine rd_callV (As := [.int 0, .int p5]) (rest := []) rd_gd C9 hTh hW (c_N_noThing hls 0 p5 qr12) kc_N_noThing ki_N_noThing ks_N_noThing l_N_137 rfl (lt_N) (ce_N) rfl ⟨Nat.le_of_ble_eq_true rfl, Nat.le_of_ble_eq_true rfl⟩ ⟨Nat.le_of_ble_eq_true rfl, Nat.le_of_ble_eq_true rfl⟩ hl.1 rfl (Nat.le_of_ble_eq_true rfl) d_N_create_49 (fun E _ _ _ _ hex => hex.elim) (fun rr MM H locs hp hW => ?_)
          obtain ⟨rfl, rfl⟩ := hp
          refine lv_if_eq (tgt := 61) hx hb d_N_create_52 (by decide) (fun c13 => ?_) (fun c13 => ?_)
          · have hf := rd_t hf c13
            refine lv_aload_n hx hb d_N_create_61 rfl (lv_at hl 0 rfl) ?_
            refine lv_iload_n hx hb d_N_create_62 rfl (lv_at hl 2 rfl) ?_
            obtain ⟨r14, qr14, hf⟩ := rd_bind hf
            refine rd_callV (As := [.int p2]) (rest := []) rd_gd C9 hTh hW (c_N_noDomain hls p2 qr14) kc_N_noDomain ki_N_noDomain ks_N_noDomain l_N_133 rfl (lt_N) (ce_N) rfl ⟨Nat.le_of_ble_eq_true rfl, Nat.le_of_ble_eq_true rfl⟩ ⟨Nat.le_of_ble_eq_true rfl, Nat.le_of_ble_eq_true rfl⟩ hl.1 rfl (Nat.le_of_ble_eq_true rfl) d_N_create_63 (fun E _ _ _ _ hex => hex.elim) (fun rr MM H locs hp hW => ?_)
            obtain ⟨rfl, rfl⟩ := hp
            refine lv_if_eq (tgt := 79) hx hb d_N_create_66 (by decide) (fun c15 => ?_) (fun c15 => ?_)
            · have hf := rd_t hf c15
              refine lv_aload_n hx hb d_N_create_79 rfl (lv_at hl 0 rfl) ?_
              refine lv_iconst (v := 4) hx hb d_N_create_80 (by decide) ?_
              obtain ⟨r16, qr16, hf⟩ := rd_bind hf
              refine rd_callV (As := [.int 4]) (rest := []) rd_gd C9 hTh hW (c_N_fail hls 4 qr16) kc_N_fail ki_N_fail ks_N_fail l_N_122 rfl (lt_N) (ce_N) rfl ⟨Nat.le_of_ble_eq_true rfl, Nat.le_of_ble_eq_true rfl⟩ ⟨Nat.le_of_ble_eq_true rfl, Nat.le_of_ble_eq_true rfl⟩ hl.1 rfl (Nat.le_of_ble_eq_true rfl) d_N_create_81 (fun E _ _ _ _ hex => hex.elim) (fun rr MM H locs hp hW => ?_)
              obtain ⟨rfl, rfl⟩ := hp
              obtain rfl := Option.some.inj hf
              exact rd_iret C9 hlk hret hW ⟨rfl, rfl⟩ (by decide) (by decide) d_N_create_84
            · have hf := rd_f hf c15
              refine lv_aload_n hx hb d_N_create_69 rfl (lv_at hl 0 rfl) ?_
              refine lv_iload_n hx hb d_N_create_70 rfl (lv_at hl 1 rfl) ?_
              refine lv_iconst (v := 0) hx hb d_N_create_71 (by decide) ?_
              refine lv_iload_n hx hb d_N_create_72 rfl (lv_at hl 3 rfl) ?_
              obtain ⟨r17, qr17, hf⟩ := rd_bind hf
              refine rd_callV (As := [.int p1, .int 0, .int p3]) (rest := []) rd_gd C9 hTh hW (c_N_canPay hls p1 0 p3 qr17) kc_N_canPay ki_N_canPay ks_N_canPay l_N_148 rfl (lt_N) (ce_N) rfl ⟨Nat.le_of_ble_eq_true rfl, Nat.le_of_ble_eq_true rfl⟩ ⟨Nat.le_of_ble_eq_true rfl, Nat.le_of_ble_eq_true rfl⟩ hl.1 rfl (Nat.le_of_ble_eq_true rfl) d_N_create_73 (fun E _ _ _ _ hex => hex.elim) (fun rr MM H locs hp hW => ?_)
              obtain ⟨rfl, rfl⟩ := hp
              refine lv_if_ne (tgt := 85) hx hb d_N_create_76 (by decide) (fun c18 => ?_) (fun c18 => ?_)
              · have hf := rd_f hf c18
                refine lv_aload_n hx hb d_N_create_85 rfl (lv_at hl 0 rfl) ?_
                refine lv_iload_n hx hb d_N_create_86 rfl (lv_at hl 2 rfl) ?_
                obtain ⟨r19, qr19, hf⟩ := rd_bind hf
                refine rd_callV (As := [.int p2]) (rest := []) rd_gd C9 hTh hW (c_N_noGrace hls p2 qr19) kc_N_noGrace ki_N_noGrace ks_N_noGrace l_N_151 rfl (lt_N) (ce_N) rfl ⟨Nat.le_of_ble_eq_true rfl, Nat.le_of_ble_eq_true rfl⟩ ⟨Nat.le_of_ble_eq_true rfl, Nat.le_of_ble_eq_true rfl⟩ hl.1 rfl (Nat.le_of_ble_eq_true rfl) d_N_create_87 (fun E _ _ _ _ hex => hex.elim) (fun rr MM H locs hp hW => ?_)
                obtain ⟨rfl, rfl⟩ := hp
                refine lv_aload_n hx hb d_N_create_90 rfl (lv_at hl 0 rfl) ?_
                refine lv_iload_n hx hb d_N_create_91 rfl (lv_at hl 1 rfl) ?_
                refine lv_iconst (v := 0) hx hb d_N_create_92 (by decide) ?_
                refine lv_iload_n hx hb d_N_create_93 rfl (lv_at hl 3 rfl) ?_
                refine lv_iload_n hx hb d_N_create_94 rfl (lv_at hl 2 rfl) ?_
                refine lv_iconst (v := 0) hx hb d_N_create_95 (by decide) ?_
                obtain ⟨r20, qr20, hf⟩ := rd_bind hf
                refine rd_callV (As := [.int p1, .int 0, .int p3, .int p2, .int 0]) (rest := []) rd_gd C9 hTh hW (c_N_pay hls p1 0 p3 p2 0 qr20) kc_N_pay ki_N_pay ks_N_pay l_N_154 rfl (lt_N) (ce_N) rfl ⟨Nat.le_of_ble_eq_true rfl, Nat.le_of_ble_eq_true rfl⟩ ⟨Nat.le_of_ble_eq_true rfl, Nat.le_of_ble_eq_true rfl⟩ hl.1 rfl (Nat.le_of_ble_eq_true rfl) d_N_create_96 (fun E _ _ _ _ hex => hex.elim) (fun rr MM H locs hp hW => ?_)
                obtain ⟨rfl, rfl⟩ := hp
                refine lv_aload_n hx hb d_N_create_99 rfl (lv_at hl 0 rfl) ?_
                refine gf_N_owner C9 hW l_N_40 d_N_create_100 ?_
                refine lv_iload_n hx hb d_N_create_103 rfl (lv_at hl 2 rfl) ?_
                refine lv_iload_n hx hb d_N_create_104 rfl (lv_at hl 1 rfl) ?_
                obtain ⟨g21, hf⟩ := rd_g hf
                refine as_m_owner C9 hW rfl g21 d_N_create_105 (fun H locs hW => ?_)
                obtain ⟨M22, hM22, hf⟩ := rd_k_el hf
                rw [← hM22] at hW
                refine lv_aload_n hx hb d_N_create_106 rfl (lv_at hl 0 rfl) ?_
                refine gf_N_expiry C9 hW l_N_43 d_N_create_107 ?_
                refine lv_iload_n hx hb d_N_create_110 rfl (lv_at hl 2 rfl) ?_
                refine lv_aload_n hx hb d_N_create_111 rfl (lv_at hl 0 rfl) ?_
                refine gf_N_day C9 hW l_N_98 d_N_create_112 ?_
                refine lv_bipush (v := 10) hx hb d_N_create_115 (by decide) ?_
                refine lv_iload_n hx hb d_N_create_117 rfl (lv_at hl 3 rfl) ?_
                refine lv_imul hx hb d_N_create_118 ?_
                refine lv_iadd hx hb d_N_create_119 ?_
                obtain ⟨g23, hf⟩ := rd_g hf
                refine as_m_expiry C9 hW rfl g23 d_N_create_120 (fun H locs hW => ?_)
                obtain ⟨M24, hM24, hf⟩ := rd_k_el hf
                rw [← hM24] at hW
                refine lv_aload_n hx hb d_N_create_121 rfl (lv_at hl 0 rfl) ?_
                refine gf_N_code C9 hW l_N_46 d_N_create_122 ?_
                refine lv_iload_n hx hb d_N_create_125 rfl (lv_at hl 2 rfl) ?_
                refine lv_iload hx hb d_N_create_126 (lv_at hl 4 rfl) ?_
                obtain ⟨g25, hf⟩ := rd_g hf
                refine as_m_code C9 hW rfl g25 d_N_create_128 (fun H locs hW => ?_)
                obtain ⟨M26, hM26, hf⟩ := rd_k_el hf
                rw [← hM26] at hW
                refine lv_aload_n hx hb d_N_create_129 rfl (lv_at hl 0 rfl) ?_
                refine gf_N_locks C9 hW l_N_49 d_N_create_130 ?_
                refine lv_iload_n hx hb d_N_create_133 rfl (lv_at hl 2 rfl) ?_
                refine lv_iconst (v := 0) hx hb d_N_create_134 (by decide) ?_
                obtain ⟨g27, hf⟩ := rd_g hf
                refine as_m_locks C9 hW rfl g27 d_N_create_135 (fun H locs hW => ?_)
                obtain ⟨M28, hM28, hf⟩ := rd_k_el hf
                rw [← hM28] at hW
                refine lv_aload_n hx hb d_N_create_136 rfl (lv_at hl 0 rfl) ?_
                refine gf_N_state C9 hW l_N_52 d_N_create_137 ?_
                refine lv_iload_n hx hb d_N_create_140 rfl (lv_at hl 2 rfl) ?_
                refine lv_iconst (v := 0) hx hb d_N_create_141 (by decide) ?_
                obtain ⟨g29, hf⟩ := rd_g hf
                refine as_m_state C9 hW rfl g29 d_N_create_142 (fun H locs hW => ?_)
                obtain ⟨M30, hM30, hf⟩ := rd_k_el hf
                rw [← hM30] at hW
                refine lv_aload_n hx hb d_N_create_143 rfl (lv_at hl 0 rfl) ?_
                refine gf_N_wants C9 hW l_N_58 d_N_create_144 ?_
                refine lv_iload_n hx hb d_N_create_147 rfl (lv_at hl 2 rfl) ?_
                refine lv_iconst (v := (-1)) hx hb d_N_create_148 (by decide) ?_
                obtain ⟨g31, hf⟩ := rd_g hf
                refine as_m_wants C9 hW rfl g31 d_N_create_149 (fun H locs hW => ?_)
                obtain ⟨M32, hM32, hf⟩ := rd_k_el hf
                rw [← hM32] at hW
                refine lv_aload_n hx hb d_N_create_150 rfl (lv_at hl 0 rfl) ?_
                refine gf_N_used C9 hW l_N_64 d_N_create_151 ?_
                refine lv_bipush (v := 6) hx hb d_N_create_154 (by decide) ?_
                refine lv_iload_n hx hb d_N_create_156 rfl (lv_at hl 2 rfl) ?_
                refine lv_imul hx hb d_N_create_157 ?_
                refine lv_iload hx hb d_N_create_158 (lv_at hl 5 rfl) ?_
                obtain ⟨g33, hf⟩ := rd_g hf
                refine as_m_used C9 hW rfl g33 d_N_create_160 (fun H locs hW => ?_)
                obtain ⟨M34, hM34, hf⟩ := rd_k_el hf
                rw [← hM34] at hW
                refine lv_aload_n hx hb d_N_create_161 rfl (lv_at hl 0 rfl) ?_
                refine gf_N_uses C9 hW l_N_67 d_N_create_162 ?_
                refine lv_iconst (v := 2) hx hb d_N_create_165 (by decide) ?_
                refine lv_iload_n hx hb d_N_create_166 rfl (lv_at hl 2 rfl) ?_
                refine lv_imul hx hb d_N_create_167 ?_
                refine lv_iconst (v := 1) hx hb d_N_create_168 (by decide) ?_
                obtain ⟨g35, hf⟩ := rd_g hf
                refine as_m_uses C9 hW rfl g35 d_N_create_169 (fun H locs hW => ?_)
                obtain ⟨M36, hM36, hf⟩ := rd_k_el hf
                rw [← hM36] at hW
                refine lv_aload_n hx hb d_N_create_170 rfl (lv_at hl 0 rfl) ?_
                refine gf_N_uses C9 hW l_N_67 d_N_create_171 ?_
                refine lv_iconst (v := 2) hx hb d_N_create_174 (by decide) ?_
                refine lv_iload_n hx hb d_N_create_175 rfl (lv_at hl 2 rfl) ?_
                refine lv_imul hx hb d_N_create_176 ?_
                refine lv_iconst (v := 1) hx hb d_N_create_177 (by decide) ?_
                refine lv_iadd hx hb d_N_create_178 ?_
                refine lv_iconst (v := 0) hx hb d_N_create_179 (by decide) ?_
                obtain ⟨g37, hf⟩ := rd_g hf
                refine as_m_uses C9 hW rfl g37 d_N_create_180 (fun H locs hW => ?_)
                obtain ⟨M38, hM38, hf⟩ := rd_k_el hf
                rw [← hM38] at hW
                refine lv_aload_n hx hb d_N_create_181 rfl (lv_at hl 0 rfl) ?_
                refine lv_aload_n hx hb d_N_create_182 rfl (lv_at hl 0 rfl) ?_
                refine gf_N_expiry C9 hW l_N_43 d_N_create_183 ?_
                refine lv_iload_n hx hb d_N_create_186 rfl (lv_at hl 2 rfl) ?_
                obtain ⟨g39, hf⟩ := rd_g hf
                refine al_m_expiry C9 hW rfl g39 d_N_create_187 ?_
                obtain ⟨r40, qr40, hf⟩ := rd_bind hf
                refine rd_callV (As := [.int ((M38 11).1 p2.toNatClampNeg)]) (rest := []) rd_gd C9 hTh hW (c_N_give hls ((M38 11).1 p2.toNatClampNeg) qr40) kc_N_give ki_N_give ks_N_give l_N_126 rfl (lt_N) (ce_N) rfl ⟨Nat.le_of_ble_eq_true rfl, Nat.le_of_ble_eq_true rfl⟩ ⟨Nat.le_of_ble_eq_true rfl, Nat.le_of_ble_eq_true rfl⟩ hl.1 rfl (Nat.le_of_ble_eq_true rfl) d_N_create_188 (fun E _ _ _ _ hex => hex.elim) (fun rr MM H locs hp hW => ?_)
                obtain ⟨rfl, rfl⟩ := hp
                obtain rfl := Option.some.inj hf
                exact rd_iret C9 hlk hret hW ⟨rfl, rfl⟩ (by decide) (by decide) d_N_create_191
              · have hf := rd_t hf c18
                refine lv_aload_n hx hb d_N_create_79 rfl (lv_at hl 0 rfl) ?_
                refine lv_iconst (v := 4) hx hb d_N_create_80 (by decide) ?_
                obtain ⟨r41, qr41, hf⟩ := rd_bind hf
                refine rd_callV (As := [.int 4]) (rest := []) rd_gd C9 hTh hW (c_N_fail hls 4 qr41) kc_N_fail ki_N_fail ks_N_fail l_N_122 rfl (lt_N) (ce_N) rfl ⟨Nat.le_of_ble_eq_true rfl, Nat.le_of_ble_eq_true rfl⟩ ⟨Nat.le_of_ble_eq_true rfl, Nat.le_of_ble_eq_true rfl⟩ hl.1 rfl (Nat.le_of_ble_eq_true rfl) d_N_create_81 (fun E _ _ _ _ hex => hex.elim) (fun rr MM H locs hp hW => ?_)
                obtain ⟨rfl, rfl⟩ := hp
                obtain rfl := Option.some.inj hf
                exact rd_iret C9 hlk hret hW ⟨rfl, rfl⟩ (by decide) (by decide) d_N_create_84
          · have hf := rd_f hf c13
            refine lv_aload_n hx hb d_N_create_55 rfl (lv_at hl 0 rfl) ?_
            refine lv_iconst (v := 2) hx hb d_N_create_56 (by decide) ?_
            obtain ⟨r42, qr42, hf⟩ := rd_bind hf
            refine rd_callV (As := [.int 2]) (rest := []) rd_gd C9 hTh hW (c_N_fail hls 2 qr42) kc_N_fail ki_N_fail ks_N_fail l_N_122 rfl (lt_N) (ce_N) rfl ⟨Nat.le_of_ble_eq_true rfl, Nat.le_of_ble_eq_true rfl⟩ ⟨Nat.le_of_ble_eq_true rfl, Nat.le_of_ble_eq_true rfl⟩ hl.1 rfl (Nat.le_of_ble_eq_true rfl) d_N_create_57 (fun E _ _ _ _ hex => hex.elim) (fun rr MM H locs hp hW => ?_)
            obtain ⟨rfl, rfl⟩ := hp
            obtain rfl := Option.some.inj hf
            exact rd_iret C9 hlk hret hW ⟨rfl, rfl⟩ (by decide) (by decide) d_N_create_60
        · have hf := rd_t hf c11
          refine lv_aload_n hx hb d_N_create_39 rfl (lv_at hl 0 rfl) ?_
          refine lv_iconst (v := 1) hx hb d_N_create_40 (by decide) ?_
          obtain ⟨r43, qr43, hf⟩ := rd_bind hf
          refine rd_callV (As := [.int 1]) (rest := []) rd_gd C9 hTh hW (c_N_fail hls 1 qr43) kc_N_fail ki_N_fail ks_N_fail l_N_122 rfl (lt_N) (ce_N) rfl ⟨Nat.le_of_ble_eq_true rfl, Nat.le_of_ble_eq_true rfl⟩ ⟨Nat.le_of_ble_eq_true rfl, Nat.le_of_ble_eq_true rfl⟩ hl.1 rfl (Nat.le_of_ble_eq_true rfl) d_N_create_41 (fun E _ _ _ _ hex => hex.elim) (fun rr MM H locs hp hW => ?_)
          obtain ⟨rfl, rfl⟩ := hp
          obtain rfl := Option.some.inj hf
          exact rd_iret C9 hlk hret hW ⟨rfl, rfl⟩ (by decide) (by decide) d_N_create_44
