def f_N_thing (M : rd_M) (p1 : Int32) (p2 : Int32) : Option (Int32 × rd_M) :=
  rd_k (if p1 < 100 then 1 else 0 : Int32) fun z2 =>
  rd_k (if z2 = 0 then p1 - 100 else p1 : Int32) fun z4 =>
  (f_N_in M z4 0 7).bind fun r5 =>
  if r5 = 0 then
    (f_N_fail M 1).bind fun r7 =>
    some (r7.1, r7.2)
  else
    (f_N_in M p2 0 3).bind fun r8 =>
    if r8 = 0 then
      (f_N_fail M 1).bind fun r29 =>
      some (r29.1, r29.2)
    else
      (f_N_noThing M z2 z4).bind fun r10 =>
      if r10 = 0 then
        if p2 = 3 then
          (f_N_users M z2 z4).bind fun r26 =>
          (f_N_give M r26).bind fun r27 =>
          some (r27.1, r27.2)
        else
          if z2 = 0 then
            if p2 = 0 then
              if rd_in z4 8 then
              (f_N_give M ((M 6).1 z4.toNatClampNeg)).bind fun r25 =>
              some (r25.1, r25.2)
              else none
            else
              (f_N_give M (-1)).bind fun r23 =>
              some (r23.1, r23.2)
          else
            if p2 = 0 then
              if rd_in z4 8 then
              (f_N_give M ((M 7).1 z4.toNatClampNeg)).bind fun r21 =>
              some (r21.1, r21.2)
              else none
            else
              if p2 = 1 then
                if rd_in z4 8 then
                (f_N_give M ((M 8).1 z4.toNatClampNeg)).bind fun r19 =>
                some (r19.1, r19.2)
                else none
              else
                if rd_in z4 8 then
                (f_N_give M ((M 9).1 z4.toNatClampNeg)).bind fun r17 =>
                some (r17.1, r17.2)
                else none
      else
        (f_N_fail M 2).bind fun r28 =>
        some (r28.1, r28.2)
set_option maxRecDepth 100000 in
set_option maxHeartbeats 4000000 in
theorem c_N_thing {l : Launch} (hls : l.stackTraces = false) {D : va_G} {Ka : Nat → ClassId} {ad : Nat → Nat} {M : rd_M} (p1 : Int32) (p2 : Int32)  {o : Int32 × rd_M} (hf : f_N_thing M p1 p2 = some o) :
    rd_Met l y_N_thing b_N_thing 5 (some .int) (2, 48, 0, 0) rd_T rd_ss D rd_cl (rd_ty Ka) (rm_L Ka) ad M [.ref (ad 0), .int p1, .int p2] (fun r M1 => r = some (.int o.1) ∧ o.2 = M1) (fun _ => False) := by
  refine rd_body (by decide) (Nat.le_of_ble_eq_true rfl) ?_
  intro p e s m below meth c C9 hlk hret hnt hTh hW ls hl
  have hx := C9.1.1
  have hb := C9.1.2.1
  have hl : lv_has ls 5 [(0, .ref (ad 0)), (1, .int p1), (2, .int p2)] := hl
  unfold f_N_thing at hf
  refine lv_iload_n hx hb d_N_thing_0 rfl (lv_at hl 1 rfl) ?_
  refine lv_bipush (v := 100) hx hb d_N_thing_1 (by decide) ?_
  obtain ⟨z2, hz2, hf⟩ := rd_k_el hf
  refine rd_sel z2 (fun z => F0 m 11 ls (.int z :: [])) hz2 (fun hJ => ?_) ?_
  · refine lv_icmp_lt (tgt := 10) hx hb d_N_thing_3 (by decide) (fun c1 => ?_) (fun c1 => ?_)
    · have hJ := rd_selt (g := (fun z => F0 m 11 ls (.int z :: []))) hJ c1
      refine lv_iconst (v := 1) hx hb d_N_thing_10 (by decide) ?_
      exact hJ
    · have hJ := rd_self (g := (fun z => F0 m 11 ls (.int z :: []))) hJ c1
      refine lv_iconst (v := 0) hx hb d_N_thing_6 (by decide) ?_
      refine lv_goto (tgt := 11) hx hb d_N_thing_7 (by decide) ?_
      exact hJ
  refine lv_istore_n (lv' := [(3, .int z2), (0, .ref (ad 0)), (1, .int p1), (2, .int p2)]) hx hb d_N_thing_11 rfl hl (by decide) rfl (fun ls hl => ?_)
  refine lv_iload_n hx hb d_N_thing_12 rfl (lv_at hl 0 rfl) ?_
  obtain ⟨z4, hz4, hf⟩ := rd_k_el hf
  refine rd_sel z4 (fun z => F0 m 24 ls (.int z :: [])) hz4 (fun hJ => ?_) ?_
  · refine lv_if_ne (tgt := 23) hx hb d_N_thing_13 (by decide) (fun c3 => ?_) (fun c3 => ?_)
    · have hJ := rd_self (g := (fun z => F0 m 24 ls (.int z :: []))) hJ c3
      refine lv_iload_n hx hb d_N_thing_23 rfl (lv_at hl 2 rfl) ?_
      exact hJ
    · have hJ := rd_selt (g := (fun z => F0 m 24 ls (.int z :: []))) hJ c3
      refine lv_iload_n hx hb d_N_thing_16 rfl (lv_at hl 2 rfl) ?_
      refine lv_bipush (v := 100) hx hb d_N_thing_17 (by decide) ?_
      refine lv_isub hx hb d_N_thing_19 ?_
      refine lv_goto (tgt := 24) hx hb d_N_thing_20 (by decide) ?_
      exact hJ
  refine lv_istore (lv' := [(4, .int z4), (3, .int z2), (0, .ref (ad 0)), (1, .int p1), (2, .int p2)]) hx hb d_N_thing_24 hl (by decide) rfl (fun ls hl => ?_)
  refine lv_iload hx hb d_N_thing_26 (lv_at hl 0 rfl) ?_
  refine lv_iconst (v := 0) hx hb d_N_thing_28 (by decide) ?_
  refine lv_bipush (v := 7) hx hb d_N_thing_29 (by decide) ?_
  obtain ⟨r5, qr5, hf⟩ := rd_bind hf
  refine rd_callS (As := [.int z4, .int 0, .int 7]) (rest := []) rd_gd C9 hTh hW (c_N_in hls z4 0 7 qr5) kc_N_in ki_N_in l_N_116 rfl ⟨Nat.le_of_ble_eq_true rfl, Nat.le_of_ble_eq_true rfl⟩ ⟨Nat.le_of_ble_eq_true rfl, Nat.le_of_ble_eq_true rfl⟩ hl.1 rfl (Nat.le_of_ble_eq_true rfl) d_N_thing_31 (fun E _ _ _ _ hex => hex.elim) (fun rr MM H locs hp hW => ?_)
  obtain ⟨rfl, rfl⟩ := hp
  refine lv_if_eq (tgt := 46) hx hb d_N_thing_34 (by decide) (fun c6 => ?_) (fun c6 => ?_)
  · have hf := rd_t hf c6
    refine lv_aload_n hx hb d_N_thing_46 rfl (lv_at hl 2 rfl) ?_
    refine lv_iconst (v := 1) hx hb d_N_thing_47 (by decide) ?_
    obtain ⟨r7, qr7, hf⟩ := rd_bind hf
    refine rd_callV (As := [.int 1]) (rest := []) rd_gd C9 hTh hW (c_N_fail hls 1 qr7) kc_N_fail ki_N_fail ks_N_fail l_N_122 rfl (lt_N) (ce_N) rfl ⟨Nat.le_of_ble_eq_true rfl, Nat.le_of_ble_eq_true rfl⟩ ⟨Nat.le_of_ble_eq_true rfl, Nat.le_of_ble_eq_true rfl⟩ hl.1 rfl (Nat.le_of_ble_eq_true rfl) d_N_thing_48 (fun E _ _ _ _ hex => hex.elim) (fun rr MM H locs hp hW => ?_)
    obtain ⟨rfl, rfl⟩ := hp
    obtain rfl := Option.some.inj hf
    exact rd_iret C9 hlk hret hW ⟨rfl, rfl⟩ (by decide) (by decide) d_N_thing_51
  · have hf := rd_f hf c6
    refine lv_iload_n hx hb d_N_thing_37 rfl (lv_at hl 4 rfl) ?_
    refine lv_iconst (v := 0) hx hb d_N_thing_38 (by decide) ?_
    refine lv_iconst (v := 3) hx hb d_N_thing_39 (by decide) ?_
    obtain ⟨r8, qr8, hf⟩ := rd_bind hf
    refine rd_callS (As := [.int p2, .int 0, .int 3]) (rest := []) rd_gd C9 hTh hW (c_N_in hls p2 0 3 qr8) kc_N_in ki_N_in l_N_116 rfl ⟨Nat.le_of_ble_eq_true rfl, Nat.le_of_ble_eq_true rfl⟩ ⟨Nat.le_of_ble_eq_true rfl, Nat.le_of_ble_eq_true rfl⟩ hl.1 rfl (Nat.le_of_ble_eq_true rfl) d_N_thing_40 (fun E _ _ _ _ hex => hex.elim) (fun rr MM H locs hp hW => ?_)
    obtain ⟨rfl, rfl⟩ := hp
    refine lv_if_ne (tgt := 52) hx hb d_N_thing_43 (by decide) (fun c9 => ?_) (fun c9 => ?_)
    · have hf := rd_f hf c9
      refine lv_aload_n hx hb d_N_thing_52 rfl (lv_at hl 2 rfl) ?_
      refine lv_iload_n hx hb d_N_thing_53 rfl (lv_at hl 1 rfl) ?_
      refine lv_iload hx hb d_N_thing_54 (lv_at hl 0 rfl) ?_
      obtain ⟨r10, qr10, hf⟩ := rd_bind hf
      refine rd_callV (As := [.int z2, .int z4]) (rest := []) rd_gd C9 hTh hW (c_N_noThing hls z2 z4 qr10) kc_N_noThing ki_N_noThing ks_N_noThing l_N_137 rfl (lt_N) (ce_N) rfl ⟨Nat.le_of_ble_eq_true rfl, Nat.le_of_ble_eq_true rfl⟩ ⟨Nat.le_of_ble_eq_true rfl, Nat.le_of_ble_eq_true rfl⟩ hl.1 rfl (Nat.le_of_ble_eq_true rfl) d_N_thing_56 (fun E _ _ _ _ hex => hex.elim) (fun rr MM H locs hp hW => ?_)
      obtain ⟨rfl, rfl⟩ := hp
      refine lv_if_eq (tgt := 68) hx hb d_N_thing_59 (by decide) (fun c11 => ?_) (fun c11 => ?_)
      · have hf := rd_t hf c11
        refine lv_iload_n hx hb d_N_thing_68 rfl (lv_at hl 4 rfl) ?_
        refine lv_iconst (v := 3) hx hb d_N_thing_69 (by decide) ?_
        refine lv_icmp_ne (tgt := 85) hx hb d_N_thing_70 (by decide) (fun c12 => ?_) (fun c12 => ?_)
        · have hf := rd_f hf c12
          refine lv_iload_n hx hb d_N_thing_85 rfl (lv_at hl 1 rfl) ?_
          refine lv_if_ne (tgt := 109) hx hb d_N_thing_86 (by decide) (fun c13 => ?_) (fun c13 => ?_)
          · have hf := rd_f hf c13
            refine lv_aload_n hx hb d_N_thing_109 rfl (lv_at hl 2 rfl) ?_
            refine lv_iload_n hx hb d_N_thing_110 rfl (lv_at hl 4 rfl) ?_
            refine lv_if_ne (tgt := 124) hx hb d_N_thing_111 (by decide) (fun c14 => ?_) (fun c14 => ?_)
            · have hf := rd_f hf c14
              refine lv_iload_n hx hb d_N_thing_124 rfl (lv_at hl 4 rfl) ?_
              refine lv_iconst (v := 1) hx hb d_N_thing_125 (by decide) ?_
              refine lv_icmp_ne (tgt := 139) hx hb d_N_thing_126 (by decide) (fun c15 => ?_) (fun c15 => ?_)
              · have hf := rd_f hf c15
                refine lv_aload_n hx hb d_N_thing_139 rfl (lv_at hl 2 rfl) ?_
                refine gf_N_under C9 hW l_N_37 d_N_thing_140 ?_
                refine lv_iload hx hb d_N_thing_143 (lv_at hl 0 rfl) ?_
                obtain ⟨g16, hf⟩ := rd_g hf
                refine al_m_under C9 hW rfl g16 d_N_thing_145 ?_
                obtain ⟨r17, qr17, hf⟩ := rd_bind hf
                refine rd_callV (As := [.int ((M 9).1 z4.toNatClampNeg)]) (rest := []) rd_gd C9 hTh hW (c_N_give hls ((M 9).1 z4.toNatClampNeg) qr17) kc_N_give ki_N_give ks_N_give l_N_126 rfl (lt_N) (ce_N) rfl ⟨Nat.le_of_ble_eq_true rfl, Nat.le_of_ble_eq_true rfl⟩ ⟨Nat.le_of_ble_eq_true rfl, Nat.le_of_ble_eq_true rfl⟩ hl.1 rfl (Nat.le_of_ble_eq_true rfl) d_N_thing_146 (fun E _ _ _ _ hex => hex.elim) (fun rr MM H locs hp hW => ?_)
                obtain ⟨rfl, rfl⟩ := hp
                obtain rfl := Option.some.inj hf
                exact rd_iret C9 hlk hret hW ⟨rfl, rfl⟩ (by decide) (by decide) d_N_thing_149
              · have hf := rd_t hf c15
                refine lv_aload_n hx hb d_N_thing_129 rfl (lv_at hl 2 rfl) ?_
                refine gf_N_address C9 hW l_N_34 d_N_thing_130 ?_
                refine lv_iload hx hb d_N_thing_133 (lv_at hl 0 rfl) ?_
                obtain ⟨g18, hf⟩ := rd_g hf
                refine al_m_address C9 hW rfl g18 d_N_thing_135 ?_
                refine lv_goto (tgt := 146) hx hb d_N_thing_136 (by decide) ?_
                obtain ⟨r19, qr19, hf⟩ := rd_bind hf
                refine rd_callV (As := [.int ((M 8).1 z4.toNatClampNeg)]) (rest := []) rd_gd C9 hTh hW (c_N_give hls ((M 8).1 z4.toNatClampNeg) qr19) kc_N_give ki_N_give ks_N_give l_N_126 rfl (lt_N) (ce_N) rfl ⟨Nat.le_of_ble_eq_true rfl, Nat.le_of_ble_eq_true rfl⟩ ⟨Nat.le_of_ble_eq_true rfl, Nat.le_of_ble_eq_true rfl⟩ hl.1 rfl (Nat.le_of_ble_eq_true rfl) d_N_thing_146 (fun E _ _ _ _ hex => hex.elim) (fun rr MM H locs hp hW => ?_)
                obtain ⟨rfl, rfl⟩ := hp
                obtain rfl := Option.some.inj hf
                exact rd_iret C9 hlk hret hW ⟨rfl, rfl⟩ (by decide) (by decide) d_N_thing_149
            · have hf := rd_t hf c14
              refine lv_aload_n hx hb d_N_thing_114 rfl (lv_at hl 2 rfl) ?_
              refine gf_N_hostOwner C9 hW l_N_31 d_N_thing_115 ?_
              refine lv_iload hx hb d_N_thing_118 (lv_at hl 0 rfl) ?_
              obtain ⟨g20, hf⟩ := rd_g hf
              refine al_m_hostOwner C9 hW rfl g20 d_N_thing_120 ?_
              refine lv_goto (tgt := 146) hx hb d_N_thing_121 (by decide) ?_
              obtain ⟨r21, qr21, hf⟩ := rd_bind hf
              refine rd_callV (As := [.int ((M 7).1 z4.toNatClampNeg)]) (rest := []) rd_gd C9 hTh hW (c_N_give hls ((M 7).1 z4.toNatClampNeg) qr21) kc_N_give ki_N_give ks_N_give l_N_126 rfl (lt_N) (ce_N) rfl ⟨Nat.le_of_ble_eq_true rfl, Nat.le_of_ble_eq_true rfl⟩ ⟨Nat.le_of_ble_eq_true rfl, Nat.le_of_ble_eq_true rfl⟩ hl.1 rfl (Nat.le_of_ble_eq_true rfl) d_N_thing_146 (fun E _ _ _ _ hex => hex.elim) (fun rr MM H locs hp hW => ?_)
              obtain ⟨rfl, rfl⟩ := hp
              obtain rfl := Option.some.inj hf
              exact rd_iret C9 hlk hret hW ⟨rfl, rfl⟩ (by decide) (by decide) d_N_thing_149
          · have hf := rd_t hf c13
            refine lv_aload_n hx hb d_N_thing_89 rfl (lv_at hl 2 rfl) ?_
            refine lv_iload_n hx hb d_N_thing_90 rfl (lv_at hl 4 rfl) ?_
            refine lv_if_ne (tgt := 104) hx hb d_N_thing_91 (by decide) (fun c22 => ?_) (fun c22 => ?_)
            · have hf := rd_f hf c22
              refine lv_iconst (v := (-1)) hx hb d_N_thing_104 (by decide) ?_
              obtain ⟨r23, qr23, hf⟩ := rd_bind hf
              refine rd_callV (As := [.int (-1)]) (rest := []) rd_gd C9 hTh hW (c_N_give hls (-1) qr23) kc_N_give ki_N_give ks_N_give l_N_126 rfl (lt_N) (ce_N) rfl ⟨Nat.le_of_ble_eq_true rfl, Nat.le_of_ble_eq_true rfl⟩ ⟨Nat.le_of_ble_eq_true rfl, Nat.le_of_ble_eq_true rfl⟩ hl.1 rfl (Nat.le_of_ble_eq_true rfl) d_N_thing_105 (fun E _ _ _ _ hex => hex.elim) (fun rr MM H locs hp hW => ?_)
              obtain ⟨rfl, rfl⟩ := hp
              obtain rfl := Option.some.inj hf
              exact rd_iret C9 hlk hret hW ⟨rfl, rfl⟩ (by decide) (by decide) d_N_thing_108
            · have hf := rd_t hf c22
              refine lv_aload_n hx hb d_N_thing_94 rfl (lv_at hl 2 rfl) ?_
              refine gf_N_contactOwner C9 hW l_N_28 d_N_thing_95 ?_
              refine lv_iload hx hb d_N_thing_98 (lv_at hl 0 rfl) ?_
              obtain ⟨g24, hf⟩ := rd_g hf
              refine al_m_contactOwner C9 hW rfl g24 d_N_thing_100 ?_
              refine lv_goto (tgt := 105) hx hb d_N_thing_101 (by decide) ?_
              obtain ⟨r25, qr25, hf⟩ := rd_bind hf
              refine rd_callV (As := [.int ((M 6).1 z4.toNatClampNeg)]) (rest := []) rd_gd C9 hTh hW (c_N_give hls ((M 6).1 z4.toNatClampNeg) qr25) kc_N_give ki_N_give ks_N_give l_N_126 rfl (lt_N) (ce_N) rfl ⟨Nat.le_of_ble_eq_true rfl, Nat.le_of_ble_eq_true rfl⟩ ⟨Nat.le_of_ble_eq_true rfl, Nat.le_of_ble_eq_true rfl⟩ hl.1 rfl (Nat.le_of_ble_eq_true rfl) d_N_thing_105 (fun E _ _ _ _ hex => hex.elim) (fun rr MM H locs hp hW => ?_)
              obtain ⟨rfl, rfl⟩ := hp
              obtain rfl := Option.some.inj hf
              exact rd_iret C9 hlk hret hW ⟨rfl, rfl⟩ (by decide) (by decide) d_N_thing_108
        · have hf := rd_t hf c12
          refine lv_aload_n hx hb d_N_thing_73 rfl (lv_at hl 2 rfl) ?_
          refine lv_aload_n hx hb d_N_thing_74 rfl (lv_at hl 2 rfl) ?_
          refine lv_iload_n hx hb d_N_thing_75 rfl (lv_at hl 1 rfl) ?_
          refine lv_iload hx hb d_N_thing_76 (lv_at hl 0 rfl) ?_
          obtain ⟨r26, qr26, hf⟩ := rd_bind hf
          refine rd_callV (As := [.int z2, .int z4]) (rest := [.ref (ad 0)]) rd_gd C9 hTh hW (c_N_users hls z2 z4 qr26) kc_N_users ki_N_users ks_N_users l_N_141 rfl (lt_N) (ce_N) rfl ⟨Nat.le_of_ble_eq_true rfl, Nat.le_of_ble_eq_true rfl⟩ ⟨Nat.le_of_ble_eq_true rfl, Nat.le_of_ble_eq_true rfl⟩ hl.1 rfl (Nat.le_of_ble_eq_true rfl) d_N_thing_78 (fun E _ _ _ _ hex => hex.elim) (fun rr MM H locs hp hW => ?_)
          obtain ⟨rfl, rfl⟩ := hp
          obtain ⟨r27, qr27, hf⟩ := rd_bind hf
          refine rd_callV (As := [.int r26]) (rest := []) rd_gd C9 hTh hW (c_N_give hls r26 qr27) kc_N_give ki_N_give ks_N_give l_N_126 rfl (lt_N) (ce_N) rfl ⟨Nat.le_of_ble_eq_true rfl, Nat.le_of_ble_eq_true rfl⟩ ⟨Nat.le_of_ble_eq_true rfl, Nat.le_of_ble_eq_true rfl⟩ hl.1 rfl (Nat.le_of_ble_eq_true rfl) d_N_thing_81 (fun E _ _ _ _ hex => hex.elim) (fun rr MM H locs hp hW => ?_)
          obtain ⟨rfl, rfl⟩ := hp
          obtain rfl := Option.some.inj hf
          exact rd_iret C9 hlk hret hW ⟨rfl, rfl⟩ (by decide) (by decide) d_N_thing_84
      · have hf := rd_f hf c11
        refine lv_aload_n hx hb d_N_thing_62 rfl (lv_at hl 2 rfl) ?_
        refine lv_iconst (v := 2) hx hb d_N_thing_63 (by decide) ?_
        obtain ⟨r28, qr28, hf⟩ := rd_bind hf
        refine rd_callV (As := [.int 2]) (rest := []) rd_gd C9 hTh hW (c_N_fail hls 2 qr28) kc_N_fail ki_N_fail ks_N_fail l_N_122 rfl (lt_N) (ce_N) rfl ⟨Nat.le_of_ble_eq_true rfl, Nat.le_of_ble_eq_true rfl⟩ ⟨Nat.le_of_ble_eq_true rfl, Nat.le_of_ble_eq_true rfl⟩ hl.1 rfl (Nat.le_of_ble_eq_true rfl) d_N_thing_64 (fun E _ _ _ _ hex => hex.elim) (fun rr MM H locs hp hW => ?_)
        obtain ⟨rfl, rfl⟩ := hp
        obtain rfl := Option.some.inj hf
        exact rd_iret C9 hlk hret hW ⟨rfl, rfl⟩ (by decide) (by decide) d_N_thing_67
    · have hf := rd_t hf c9
      refine lv_aload_n hx hb d_N_thing_46 rfl (lv_at hl 2 rfl) ?_
      refine lv_iconst (v := 1) hx hb d_N_thing_47 (by decide) ?_
      obtain ⟨r29, qr29, hf⟩ := rd_bind hf
      refine rd_callV (As := [.int 1]) (rest := []) rd_gd C9 hTh hW (c_N_fail hls 1 qr29) kc_N_fail ki_N_fail ks_N_fail l_N_122 rfl (lt_N) (ce_N) rfl ⟨Nat.le_of_ble_eq_true rfl, Nat.le_of_ble_eq_true rfl⟩ ⟨Nat.le_of_ble_eq_true rfl, Nat.le_of_ble_eq_true rfl⟩ hl.1 rfl (Nat.le_of_ble_eq_true rfl) d_N_thing_48 (fun E _ _ _ _ hex => hex.elim) (fun rr MM H locs hp hW => ?_)
      obtain ⟨rfl, rfl⟩ := hp
      obtain rfl := Option.some.inj hf
      exact rd_iret C9 hlk hret hW ⟨rfl, rfl⟩ (by decide) (by decide) d_N_thing_51
def lb_N_row_62 (M : rd_M) (q4 : Int32) (q3 : Int32) (q1 : Int32) (Kf : Int32 → Int32 → Option (Int32)) (rec : Int32 → Int32 → Option (Int32)) (v62_5 : Int32) (v62_2 : Int32) : Option (Int32) :=
  if q4 ≤ v62_5 then
    Kf v62_5 v62_2
  else
    if v62_2 = q1 then
      if rd_in (((6 * q3) + 3) + v62_5) 60 then
      some ((1000 * q3) + ((M 18).1 ((((6 * q3) + 3) + v62_5).toNatClampNeg)))
      else none
    else
      rec (v62_5 + 1) (v62_2 + 1)
def lb_N_row_107 (M : rd_M) (q4 : Int32) (q3 : Int32) (q1 : Int32) (Kf : Int32 → Int32 → Option (Int32)) (rec : Int32 → Int32 → Option (Int32)) (v107_5 : Int32) (v107_2 : Int32) : Option (Int32) :=
  if ((M 0).1 9) ≤ v107_5 then
    Kf v107_5 v107_2
  else
    if rd_in v107_5 8 then
    if ((M 7).1 v107_5.toNatClampNeg) < 0 then
      rec (v107_5 + 1) v107_2
    else
      if rd_in v107_5 8 then
      if ((M 9).1 v107_5.toNatClampNeg) = q3 then
        (f_N_users M 1 v107_5).bind fun r18 =>
        if r18 = 0 then
          rec (v107_5 + 1) v107_2
        else
          if v107_2 = q1 then
            some (((1000 * q3) + 100) + v107_5)
          else
            rec (v107_5 + 1) (v107_2 + 1)
      else
        rec (v107_5 + 1) v107_2
      else none
    else none
def lb_N_row_4 (M : rd_M) (q1 : Int32) (Kf : Int32 → Int32 → Option (Int32)) (rec : Int32 → Int32 → Option (Int32)) (v4_3 : Int32) (v4_2 : Int32) : Option (Int32) :=
  if 10 ≤ v4_3 then
    Kf v4_3 v4_2
  else
    if rd_in ((2 * v4_3) + 1) 20 then
    (f_N_noDomain M v4_3).bind fun r3 =>
    if r3 = 0 then
      if rd_in v4_3 10 then
      if ((M 14).1 v4_3.toNatClampNeg) = 0 then
        if rd_in v4_3 10 then
        if (((M 13).1 v4_3.toNatClampNeg) &&& 16) = 0 then
          if ((M 19).1 (((2 * v4_3) + 1).toNatClampNeg)) = 0 then
            rec (v4_3 + 1) v4_2
          else
            rd_it (fun _ _ => none) (lb_N_row_62 M ((M 19).1 (((2 * v4_3) + 1).toNatClampNeg)) v4_3 q1 (fun w62_5 w62_2 =>
              rd_it (fun _ _ => none) (lb_N_row_107 M ((M 19).1 (((2 * v4_3) + 1).toNatClampNeg)) v4_3 q1 (fun w107_5 w107_2 =>
                rec (v4_3 + 1) w107_2)) 64 0 w62_2)) 64 0 v4_2
        else
          rec (v4_3 + 1) v4_2
        else none
      else
        rec (v4_3 + 1) v4_2
      else none
    else
      rec (v4_3 + 1) v4_2
    else none
def f_N_row (M : rd_M) (p1 : Int32) : Option (Int32) :=
  rd_it (fun _ _ => none) (lb_N_row_4 M p1 (fun w4_3 w4_2 =>
    some ((-1) - w4_2))) 64 0 0
set_option maxRecDepth 100000 in
set_option maxHeartbeats 4000000 in
theorem c_N_row {l : Launch} (hls : l.stackTraces = false) {D : va_G} {Ka : Nat → ClassId} {ad : Nat → Nat} {M : rd_M} (p1 : Int32)  {o : Int32} (hf : f_N_row M p1 = some o) :
    rd_Met l y_N_row b_N_row 6 (some .int) (2, 48, 0, 0) rd_T rd_ss D rd_cl (rd_ty Ka) (rm_L Ka) ad M [.ref (ad 0), .int p1] (fun r M1 => r = some (.int o) ∧ M = M1) (fun _ => False) := by
  refine rd_body (by decide) (Nat.le_of_ble_eq_true rfl) ?_
  intro p e s m below meth c C9 hlk hret hnt hTh hW ls hl
  have hx := C9.1.1
  have hb := C9.1.2.1
  have hl : lv_has ls 6 [(0, .ref (ad 0)), (1, .int p1)] := hl
  unfold f_N_row at hf
  refine lv_iconst (v := 0) hx hb d_N_row_0 (by decide) ?_
  refine lv_istore_n (lv' := [(2, .int 0), (0, .ref (ad 0)), (1, .int p1)]) hx hb d_N_row_1 rfl hl (by decide) rfl (fun ls hl => ?_)
  refine lv_iconst (v := 0) hx hb d_N_row_2 (by decide) ?_
  refine lv_istore_n (lv' := [(3, .int 0), (2, .int 0), (0, .ref (ad 0)), (1, .int p1)]) hx hb d_N_row_3 rfl hl (by decide) rfl (fun ls hl => ?_)
  have loop_4 : ∀ (Kf : Int32 → Int32 → Option (Int32)) (hk_4 : ∀ (w4_3 : Int32) (w4_2 : Int32) (H : Heap) (locs : List Loc) (ls : Array Slot), Kf w4_3 w4_2 = some o → rd_W D rd_cl (rm_L Ka) ad (rd_A (rm_L Ka) ad s.heap.size) s.heap M H locs → lv_has ls 6 [(3, .int w4_3), (2, .int w4_2), (0, .ref (ad 0)), (1, .int p1)] → W p l e { frames := 2, cells := 0, slots := 0, locals := 48 } s m [.ref (ad 0), .int p1].toArray below meth c H locs 0 0 (rd_Z below (rd_O D rd_cl (rm_L Ka) ad M (rd_A (rm_L Ka) ad s.heap.size) 0 0 (fun r M1 => r = some (.int o) ∧ M = M1) (fun _ => False)) s) (F0 m 182 ls [])) (fu : Nat) (v4_3 : Int32) (v4_2 : Int32) (H : Heap) (locs : List Loc) (ls : Array Slot), rd_it (fun _ _ => none) (lb_N_row_4 M p1 Kf) fu v4_3 v4_2 = some o → rd_W D rd_cl (rm_L Ka) ad (rd_A (rm_L Ka) ad s.heap.size) s.heap M H locs → lv_has ls 6 [(3, .int v4_3), (2, .int v4_2), (0, .ref (ad 0)), (1, .int p1)] → W p l e { frames := 2, cells := 0, slots := 0, locals := 48 } s m [.ref (ad 0), .int p1].toArray below meth c H locs 0 0 (rd_Z below (rd_O D rd_cl (rm_L Ka) ad M (rd_A (rm_L Ka) ad s.heap.size) 0 0 (fun r M1 => r = some (.int o) ∧ M = M1) (fun _ => False)) s) (F0 m 4 ls []) := by
    intro Kf hk_4 fu
    induction fu with
    | zero => intro _ _ H locs ls hf; exact (rd_nf hf).elim
    | succ fu ih_4 =>
      intro v4_3 v4_2 H locs ls hf hW hl
      rw [rd_it_s] at hf
      unfold lb_N_row_4 at hf
      refine lv_iload_n hx hb d_N_row_4 rfl (lv_at hl 0 rfl) ?_
      refine lv_bipush (v := 10) hx hb d_N_row_5 (by decide) ?_
      refine lv_icmp_ge (tgt := 182) hx hb d_N_row_7 (by decide) (fun c32 => ?_) (fun c32 => ?_)
      · have hf := rd_t hf c32
        exact hk_4 _ _ _ _ _ hf hW (lv_sub hl [0, 1, 2, 3] rfl)
      · have hf := rd_f hf c32
        refine lv_aload_n hx hb d_N_row_10 rfl (lv_at hl 2 rfl) ?_
        refine gf_N_uses C9 hW l_N_67 d_N_row_11 ?_
        refine lv_iconst (v := 2) hx hb d_N_row_14 (by decide) ?_
        refine lv_iload_n hx hb d_N_row_15 rfl (lv_at hl 0 rfl) ?_
        refine lv_imul hx hb d_N_row_16 ?_
        refine lv_iconst (v := 1) hx hb d_N_row_17 (by decide) ?_
        refine lv_iadd hx hb d_N_row_18 ?_
        obtain ⟨g33, hf⟩ := rd_g hf
        refine al_m_uses C9 hW rfl g33 d_N_row_19 ?_
        refine lv_istore (lv' := [(4, .int ((M 19).1 (((2 * v4_3) + 1).toNatClampNeg))), (3, .int v4_3), (2, .int v4_2), (0, .ref (ad 0)), (1, .int p1)]) hx hb d_N_row_20 hl (by decide) rfl (fun ls hl => ?_)
        refine lv_aload_n hx hb d_N_row_22 rfl (lv_at hl 3 rfl) ?_
        refine lv_iload_n hx hb d_N_row_23 rfl (lv_at hl 1 rfl) ?_
        obtain ⟨r34, qr34, hf⟩ := rd_bind hf
        refine rd_callV (As := [.int v4_3]) (rest := []) rd_gd C9 hTh hW (c_N_noDomain hls v4_3 qr34) kc_N_noDomain ki_N_noDomain ks_N_noDomain l_N_133 rfl (lt_N) (ce_N) rfl ⟨Nat.le_of_ble_eq_true rfl, Nat.le_of_ble_eq_true rfl⟩ ⟨Nat.le_of_ble_eq_true rfl, Nat.le_of_ble_eq_true rfl⟩ hl.1 rfl (Nat.le_of_ble_eq_true rfl) d_N_row_24 (fun E _ _ _ _ hex => hex.elim) (fun rr MM H locs hp hW => ?_)
        obtain ⟨rfl, rfl⟩ := hp
        refine lv_if_ne (tgt := 176) hx hb d_N_row_27 (by decide) (fun c35 => ?_) (fun c35 => ?_)
        · have hf := rd_f hf c35
          refine lv_iinc (v := v4_3 + 1) (lv' := [(3, .int (v4_3 + 1)), (4, .int ((M 19).1 (((2 * v4_3) + 1).toNatClampNeg))), (2, .int v4_2), (0, .ref (ad 0)), (1, .int p1)]) hx hb d_N_row_176 hl (k := 1) rfl rfl (by decide) rfl (fun ls hl => ?_)
          refine lv_goto (tgt := 4) hx hb d_N_row_179 (by decide) ?_
          exact ih_4 _ _ _ _ _ hf hW (lv_sub hl [0, 2, 3, 4] rfl)
        · have hf := rd_t hf c35
          refine lv_aload_n hx hb d_N_row_30 rfl (lv_at hl 3 rfl) ?_
          refine gf_N_state C9 hW l_N_52 d_N_row_31 ?_
          refine lv_iload_n hx hb d_N_row_34 rfl (lv_at hl 1 rfl) ?_
          obtain ⟨g36, hf⟩ := rd_g hf
          refine al_m_state C9 hW rfl g36 d_N_row_35 ?_
          refine lv_if_ne (tgt := 176) hx hb d_N_row_36 (by decide) (fun c37 => ?_) (fun c37 => ?_)
          · have hf := rd_f hf c37
            refine lv_iinc (v := v4_3 + 1) (lv' := [(3, .int (v4_3 + 1)), (4, .int ((M 19).1 (((2 * v4_3) + 1).toNatClampNeg))), (2, .int v4_2), (0, .ref (ad 0)), (1, .int p1)]) hx hb d_N_row_176 hl (k := 1) rfl rfl (by decide) rfl (fun ls hl => ?_)
            refine lv_goto (tgt := 4) hx hb d_N_row_179 (by decide) ?_
            exact ih_4 _ _ _ _ _ hf hW (lv_sub hl [0, 2, 3, 4] rfl)
          · have hf := rd_t hf c37
            refine lv_aload_n hx hb d_N_row_39 rfl (lv_at hl 3 rfl) ?_
            refine gf_N_locks C9 hW l_N_49 d_N_row_40 ?_
            refine lv_iload_n hx hb d_N_row_43 rfl (lv_at hl 1 rfl) ?_
            obtain ⟨g38, hf⟩ := rd_g hf
            refine al_m_locks C9 hW rfl g38 d_N_row_44 ?_
            refine lv_bipush (v := 16) hx hb d_N_row_45 (by decide) ?_
            refine lv_iand hx hb d_N_row_47 ?_
            refine lv_if_ne (tgt := 176) hx hb d_N_row_48 (by decide) (fun c39 => ?_) (fun c39 => ?_)
            · have hf := rd_f hf c39
              refine lv_iinc (v := v4_3 + 1) (lv' := [(3, .int (v4_3 + 1)), (4, .int ((M 19).1 (((2 * v4_3) + 1).toNatClampNeg))), (2, .int v4_2), (0, .ref (ad 0)), (1, .int p1)]) hx hb d_N_row_176 hl (k := 1) rfl rfl (by decide) rfl (fun ls hl => ?_)
              refine lv_goto (tgt := 4) hx hb d_N_row_179 (by decide) ?_
              exact ih_4 _ _ _ _ _ hf hW (lv_sub hl [0, 2, 3, 4] rfl)
            · have hf := rd_t hf c39
              refine lv_iload hx hb d_N_row_51 (lv_at hl 0 rfl) ?_
              refine lv_if_ne (tgt := 59) hx hb d_N_row_53 (by decide) (fun c40 => ?_) (fun c40 => ?_)
              · have hf := rd_f hf c40
                refine lv_iconst (v := 0) hx hb d_N_row_59 (by decide) ?_
                refine lv_istore (lv' := [(5, .int 0), (4, .int ((M 19).1 (((2 * v4_3) + 1).toNatClampNeg))), (3, .int v4_3), (2, .int v4_2), (0, .ref (ad 0)), (1, .int p1)]) hx hb d_N_row_60 hl (by decide) rfl (fun ls hl => ?_)
                have loop_62 : ∀ (Kf : Int32 → Int32 → Option (Int32)) (hk_62 : ∀ (w62_5 : Int32) (w62_2 : Int32) (H : Heap) (locs : List Loc) (ls : Array Slot), Kf w62_5 w62_2 = some o → rd_W D rd_cl (rm_L Ka) ad (rd_A (rm_L Ka) ad s.heap.size) s.heap M H locs → lv_has ls 6 [(5, .int w62_5), (4, .int ((M 19).1 (((2 * v4_3) + 1).toNatClampNeg))), (3, .int v4_3), (2, .int w62_2), (0, .ref (ad 0)), (1, .int p1)] → W p l e { frames := 2, cells := 0, slots := 0, locals := 48 } s m [.ref (ad 0), .int p1].toArray below meth c H locs 0 0 (rd_Z below (rd_O D rd_cl (rm_L Ka) ad M (rd_A (rm_L Ka) ad s.heap.size) 0 0 (fun r M1 => r = some (.int o) ∧ M = M1) (fun _ => False)) s) (F0 m 104 ls [])) (fu : Nat) (v62_5 : Int32) (v62_2 : Int32) (H : Heap) (locs : List Loc) (ls : Array Slot), rd_it (fun _ _ => none) (lb_N_row_62 M ((M 19).1 (((2 * v4_3) + 1).toNatClampNeg)) v4_3 p1 Kf) fu v62_5 v62_2 = some o → rd_W D rd_cl (rm_L Ka) ad (rd_A (rm_L Ka) ad s.heap.size) s.heap M H locs → lv_has ls 6 [(5, .int v62_5), (4, .int ((M 19).1 (((2 * v4_3) + 1).toNatClampNeg))), (3, .int v4_3), (2, .int v62_2), (0, .ref (ad 0)), (1, .int p1)] → W p l e { frames := 2, cells := 0, slots := 0, locals := 48 } s m [.ref (ad 0), .int p1].toArray below meth c H locs 0 0 (rd_Z below (rd_O D rd_cl (rm_L Ka) ad M (rd_A (rm_L Ka) ad s.heap.size) 0 0 (fun r M1 => r = some (.int o) ∧ M = M1) (fun _ => False)) s) (F0 m 62 ls []) := by
                  intro Kf hk_62 fu
                  induction fu with
                  | zero => intro _ _ H locs ls hf; exact (rd_nf hf).elim
                  | succ fu ih_62 =>
                    intro v62_5 v62_2 H locs ls hf hW hl
                    rw [rd_it_s] at hf
                    unfold lb_N_row_62 at hf
                    refine lv_iload hx hb d_N_row_62 (lv_at hl 0 rfl) ?_
                    refine lv_iload hx hb d_N_row_64 (lv_at hl 1 rfl) ?_
                    refine lv_icmp_ge (tgt := 104) hx hb d_N_row_66 (by decide) (fun c49 => ?_) (fun c49 => ?_)
                    · have hf := rd_t hf c49
                      exact hk_62 _ _ _ _ _ hf hW (lv_sub hl [0, 1, 2, 3, 4, 5] rfl)
                    · have hf := rd_f hf c49
                      refine lv_iload_n hx hb d_N_row_69 rfl (lv_at hl 3 rfl) ?_
                      refine lv_iload_n hx hb d_N_row_70 rfl (lv_at hl 5 rfl) ?_
                      refine lv_icmp_ne (tgt := 95) hx hb d_N_row_71 (by decide) (fun c50 => ?_) (fun c50 => ?_)
                      · have hf := rd_f hf c50
                        refine lv_iinc (v := v62_2 + 1) (lv' := [(2, .int (v62_2 + 1)), (5, .int v62_5), (4, .int ((M 19).1 (((2 * v4_3) + 1).toNatClampNeg))), (3, .int v4_3), (0, .ref (ad 0)), (1, .int p1)]) hx hb d_N_row_95 hl (k := 3) rfl rfl (by decide) rfl (fun ls hl => ?_)
                        refine lv_iinc (v := v62_5 + 1) (lv' := [(5, .int (v62_5 + 1)), (2, .int (v62_2 + 1)), (4, .int ((M 19).1 (((2 * v4_3) + 1).toNatClampNeg))), (3, .int v4_3), (0, .ref (ad 0)), (1, .int p1)]) hx hb d_N_row_98 hl (k := 1) rfl rfl (by decide) rfl (fun ls hl => ?_)
                        refine lv_goto (tgt := 62) hx hb d_N_row_101 (by decide) ?_
                        exact ih_62 _ _ _ _ _ hf hW (lv_sub hl [0, 2, 3, 1, 4, 5] rfl)
                      · have hf := rd_t hf c50
                        refine lv_sipush (v := 1000) hx hb d_N_row_74 (by decide) ?_
                        refine lv_iload_n hx hb d_N_row_77 rfl (lv_at hl 2 rfl) ?_
                        refine lv_imul hx hb d_N_row_78 ?_
                        refine lv_aload_n hx hb d_N_row_79 rfl (lv_at hl 4 rfl) ?_
                        refine gf_N_used C9 hW l_N_64 d_N_row_80 ?_
                        refine lv_bipush (v := 6) hx hb d_N_row_83 (by decide) ?_
                        refine lv_iload_n hx hb d_N_row_85 rfl (lv_at hl 2 rfl) ?_
                        refine lv_imul hx hb d_N_row_86 ?_
                        refine lv_iconst (v := 3) hx hb d_N_row_87 (by decide) ?_
                        refine lv_iadd hx hb d_N_row_88 ?_
                        refine lv_iload hx hb d_N_row_89 (lv_at hl 0 rfl) ?_
                        refine lv_iadd hx hb d_N_row_91 ?_
                        obtain ⟨g51, hf⟩ := rd_g hf
                        refine al_m_used C9 hW rfl g51 d_N_row_92 ?_
                        refine lv_iadd hx hb d_N_row_93 ?_
                        obtain rfl := Option.some.inj hf
                        exact rd_iret C9 hlk hret hW ⟨rfl, rfl⟩ (by decide) (by decide) d_N_row_94
                refine loop_62 _ ?_ 64 _ _ _ _ _ hf hW (lv_sub hl [0, 1, 2, 3, 4, 5] rfl)
                intro w62_5 w62_2 H locs ls hf hW hl
                refine lv_iconst (v := 0) hx hb d_N_row_104 (by decide) ?_
                refine lv_istore (lv' := [(5, .int 0), (4, .int ((M 19).1 (((2 * v4_3) + 1).toNatClampNeg))), (3, .int v4_3), (2, .int w62_2), (0, .ref (ad 0)), (1, .int p1)]) hx hb d_N_row_105 hl (by decide) rfl (fun ls hl => ?_)
                have loop_107 : ∀ (Kf : Int32 → Int32 → Option (Int32)) (hk_107 : ∀ (w107_5 : Int32) (w107_2 : Int32) (H : Heap) (locs : List Loc) (ls : Array Slot), Kf w107_5 w107_2 = some o → rd_W D rd_cl (rm_L Ka) ad (rd_A (rm_L Ka) ad s.heap.size) s.heap M H locs → lv_has ls 6 [(5, .int w107_5), (4, .int ((M 19).1 (((2 * v4_3) + 1).toNatClampNeg))), (3, .int v4_3), (2, .int w107_2), (0, .ref (ad 0)), (1, .int p1)] → W p l e { frames := 2, cells := 0, slots := 0, locals := 48 } s m [.ref (ad 0), .int p1].toArray below meth c H locs 0 0 (rd_Z below (rd_O D rd_cl (rm_L Ka) ad M (rd_A (rm_L Ka) ad s.heap.size) 0 0 (fun r M1 => r = some (.int o) ∧ M = M1) (fun _ => False)) s) (F0 m 176 ls [])) (fu : Nat) (v107_5 : Int32) (v107_2 : Int32) (H : Heap) (locs : List Loc) (ls : Array Slot), rd_it (fun _ _ => none) (lb_N_row_107 M ((M 19).1 (((2 * v4_3) + 1).toNatClampNeg)) v4_3 p1 Kf) fu v107_5 v107_2 = some o → rd_W D rd_cl (rm_L Ka) ad (rd_A (rm_L Ka) ad s.heap.size) s.heap M H locs → lv_has ls 6 [(5, .int v107_5), (4, .int ((M 19).1 (((2 * v4_3) + 1).toNatClampNeg))), (3, .int v4_3), (2, .int v107_2), (0, .ref (ad 0)), (1, .int p1)] → W p l e { frames := 2, cells := 0, slots := 0, locals := 48 } s m [.ref (ad 0), .int p1].toArray below meth c H locs 0 0 (rd_Z below (rd_O D rd_cl (rm_L Ka) ad M (rd_A (rm_L Ka) ad s.heap.size) 0 0 (fun r M1 => r = some (.int o) ∧ M = M1) (fun _ => False)) s) (F0 m 107 ls []) := by
                  intro Kf hk_107 fu
                  induction fu with
                  | zero => intro _ _ H locs ls hf; exact (rd_nf hf).elim
                  | succ fu ih_107 =>
                    intro v107_5 v107_2 H locs ls hf hW hl
                    rw [rd_it_s] at hf
                    unfold lb_N_row_107 at hf
                    refine lv_iload hx hb d_N_row_107 (lv_at hl 0 rfl) ?_
                    refine lv_aload_n hx hb d_N_row_109 rfl (lv_at hl 4 rfl) ?_
                    refine gf_N_hosts C9 hW l_N_85 d_N_row_110 ?_
                    refine lv_icmp_ge (tgt := 176) hx hb d_N_row_113 (by decide) (fun c41 => ?_) (fun c41 => ?_)
                    · have hf := rd_t hf c41
                      exact hk_107 _ _ _ _ _ hf hW (lv_sub hl [0, 1, 2, 3, 4, 5] rfl)
                    · have hf := rd_f hf c41
                      refine lv_aload_n hx hb d_N_row_116 rfl (lv_at hl 4 rfl) ?_
                      refine gf_N_hostOwner C9 hW l_N_31 d_N_row_117 ?_
                      refine lv_iload hx hb d_N_row_120 (lv_at hl 0 rfl) ?_
                      obtain ⟨g42, hf⟩ := rd_g hf
                      refine al_m_hostOwner C9 hW rfl g42 d_N_row_122 ?_
                      refine lv_if_lt (tgt := 170) hx hb d_N_row_123 (by decide) (fun c43 => ?_) (fun c43 => ?_)
                      · have hf := rd_t hf c43
                        refine lv_iinc (v := v107_5 + 1) (lv' := [(5, .int (v107_5 + 1)), (4, .int ((M 19).1 (((2 * v4_3) + 1).toNatClampNeg))), (3, .int v4_3), (2, .int v107_2), (0, .ref (ad 0)), (1, .int p1)]) hx hb d_N_row_170 hl (k := 0) rfl rfl (by decide) rfl (fun ls hl => ?_)
                        refine lv_goto (tgt := 107) hx hb d_N_row_173 (by decide) ?_
                        exact ih_107 _ _ _ _ _ hf hW (lv_sub hl [0, 1, 2, 3, 4, 5] rfl)
                      · have hf := rd_f hf c43
                        refine lv_aload_n hx hb d_N_row_126 rfl (lv_at hl 4 rfl) ?_
                        refine gf_N_under C9 hW l_N_37 d_N_row_127 ?_
                        refine lv_iload hx hb d_N_row_130 (lv_at hl 0 rfl) ?_
                        obtain ⟨g44, hf⟩ := rd_g hf
                        refine al_m_under C9 hW rfl g44 d_N_row_132 ?_
                        refine lv_iload_n hx hb d_N_row_133 rfl (lv_at hl 2 rfl) ?_
                        refine lv_icmp_ne (tgt := 170) hx hb d_N_row_134 (by decide) (fun c45 => ?_) (fun c45 => ?_)
                        · have hf := rd_f hf c45
                          refine lv_iinc (v := v107_5 + 1) (lv' := [(5, .int (v107_5 + 1)), (4, .int ((M 19).1 (((2 * v4_3) + 1).toNatClampNeg))), (3, .int v4_3), (2, .int v107_2), (0, .ref (ad 0)), (1, .int p1)]) hx hb d_N_row_170 hl (k := 0) rfl rfl (by decide) rfl (fun ls hl => ?_)
                          refine lv_goto (tgt := 107) hx hb d_N_row_173 (by decide) ?_
                          exact ih_107 _ _ _ _ _ hf hW (lv_sub hl [0, 1, 2, 3, 4, 5] rfl)
                        · have hf := rd_t hf c45
                          refine lv_aload_n hx hb d_N_row_137 rfl (lv_at hl 4 rfl) ?_
                          refine lv_iconst (v := 1) hx hb d_N_row_138 (by decide) ?_
                          refine lv_iload hx hb d_N_row_139 (lv_at hl 0 rfl) ?_
                          obtain ⟨r46, qr46, hf⟩ := rd_bind hf
                          refine rd_callV (As := [.int 1, .int v107_5]) (rest := []) rd_gd C9 hTh hW (c_N_users hls 1 v107_5 qr46) kc_N_users ki_N_users ks_N_users l_N_141 rfl (lt_N) (ce_N) rfl ⟨Nat.le_of_ble_eq_true rfl, Nat.le_of_ble_eq_true rfl⟩ ⟨Nat.le_of_ble_eq_true rfl, Nat.le_of_ble_eq_true rfl⟩ hl.1 rfl (Nat.le_of_ble_eq_true rfl) d_N_row_141 (fun E _ _ _ _ hex => hex.elim) (fun rr MM H locs hp hW => ?_)
                          obtain ⟨rfl, rfl⟩ := hp
                          refine lv_if_ne (tgt := 150) hx hb d_N_row_144 (by decide) (fun c47 => ?_) (fun c47 => ?_)
                          · have hf := rd_f hf c47
                            refine lv_iload_n hx hb d_N_row_150 rfl (lv_at hl 3 rfl) ?_
                            refine lv_iload_n hx hb d_N_row_151 rfl (lv_at hl 5 rfl) ?_
                            refine lv_icmp_ne (tgt := 167) hx hb d_N_row_152 (by decide) (fun c48 => ?_) (fun c48 => ?_)
                            · have hf := rd_f hf c48
                              refine lv_iinc (v := v107_2 + 1) (lv' := [(2, .int (v107_2 + 1)), (5, .int v107_5), (4, .int ((M 19).1 (((2 * v4_3) + 1).toNatClampNeg))), (3, .int v4_3), (0, .ref (ad 0)), (1, .int p1)]) hx hb d_N_row_167 hl (k := 3) rfl rfl (by decide) rfl (fun ls hl => ?_)
                              refine lv_iinc (v := v107_5 + 1) (lv' := [(5, .int (v107_5 + 1)), (2, .int (v107_2 + 1)), (4, .int ((M 19).1 (((2 * v4_3) + 1).toNatClampNeg))), (3, .int v4_3), (0, .ref (ad 0)), (1, .int p1)]) hx hb d_N_row_170 hl (k := 1) rfl rfl (by decide) rfl (fun ls hl => ?_)
                              refine lv_goto (tgt := 107) hx hb d_N_row_173 (by decide) ?_
                              exact ih_107 _ _ _ _ _ hf hW (lv_sub hl [0, 2, 3, 1, 4, 5] rfl)
                            · have hf := rd_t hf c48
                              refine lv_sipush (v := 1000) hx hb d_N_row_155 (by decide) ?_
                              refine lv_iload_n hx hb d_N_row_158 rfl (lv_at hl 2 rfl) ?_
                              refine lv_imul hx hb d_N_row_159 ?_
                              refine lv_bipush (v := 100) hx hb d_N_row_160 (by decide) ?_
                              refine lv_iadd hx hb d_N_row_162 ?_
                              refine lv_iload hx hb d_N_row_163 (lv_at hl 0 rfl) ?_
                              refine lv_iadd hx hb d_N_row_165 ?_
                              obtain rfl := Option.some.inj hf
                              exact rd_iret C9 hlk hret hW ⟨rfl, rfl⟩ (by decide) (by decide) d_N_row_166
                          · have hf := rd_t hf c47
                            refine lv_goto (tgt := 170) hx hb d_N_row_147 (by decide) ?_
                            refine lv_iinc (v := v107_5 + 1) (lv' := [(5, .int (v107_5 + 1)), (4, .int ((M 19).1 (((2 * v4_3) + 1).toNatClampNeg))), (3, .int v4_3), (2, .int v107_2), (0, .ref (ad 0)), (1, .int p1)]) hx hb d_N_row_170 hl (k := 0) rfl rfl (by decide) rfl (fun ls hl => ?_)
                            refine lv_goto (tgt := 107) hx hb d_N_row_173 (by decide) ?_
                            exact ih_107 _ _ _ _ _ hf hW (lv_sub hl [0, 1, 2, 3, 4, 5] rfl)
                refine loop_107 _ ?_ 64 _ _ _ _ _ hf hW (lv_sub hl [0, 1, 2, 3, 4, 5] rfl)
                intro w107_5 w107_2 H locs ls hf hW hl
                refine lv_iinc (v := v4_3 + 1) (lv' := [(3, .int (v4_3 + 1)), (5, .int w107_5), (4, .int ((M 19).1 (((2 * v4_3) + 1).toNatClampNeg))), (2, .int w107_2), (0, .ref (ad 0)), (1, .int p1)]) hx hb d_N_row_176 hl (k := 2) rfl rfl (by decide) rfl (fun ls hl => ?_)
                refine lv_goto (tgt := 4) hx hb d_N_row_179 (by decide) ?_
                exact ih_4 _ _ _ _ _ hf hW (lv_sub hl [0, 3, 4, 5] rfl)
              · have hf := rd_t hf c40
                refine lv_goto (tgt := 176) hx hb d_N_row_56 (by decide) ?_
                refine lv_iinc (v := v4_3 + 1) (lv' := [(3, .int (v4_3 + 1)), (4, .int ((M 19).1 (((2 * v4_3) + 1).toNatClampNeg))), (2, .int v4_2), (0, .ref (ad 0)), (1, .int p1)]) hx hb d_N_row_176 hl (k := 1) rfl rfl (by decide) rfl (fun ls hl => ?_)
                refine lv_goto (tgt := 4) hx hb d_N_row_179 (by decide) ?_
                exact ih_4 _ _ _ _ _ hf hW (lv_sub hl [0, 2, 3, 4] rfl)
  refine loop_4 _ ?_ 64 _ _ _ _ _ hf hW (lv_sub hl [0, 1, 2, 3] rfl)
  intro w4_3 w4_2 H locs ls hf hW hl
  refine lv_iconst (v := (-1)) hx hb d_N_row_182 (by decide) ?_
  refine lv_iload_n hx hb d_N_row_183 rfl (lv_at hl 1 rfl) ?_
  refine lv_isub hx hb d_N_row_184 ?_
  obtain rfl := Option.some.inj hf
  exact rd_iret C9 hlk hret hW ⟨rfl, rfl⟩ (by decide) (by decide) d_N_row_185
def f_N_zone (M : rd_M) (p1 : Int32) : Option (Int32 × rd_M) :=
  if 0 ≤ p1 then
    (f_N_row M p1).bind fun r2 =>
    if 0 ≤ r2 then
      (f_N_give M r2).bind fun r4 =>
      some (r4.1, r4.2)
    else
      (f_N_fail M 2).bind fun r5 =>
      some (r5.1, r5.2)
  else
    if 0 ≤ (-1 : Int32) then
      (f_N_give M (-1)).bind fun r7 =>
      some (r7.1, r7.2)
    else
      (f_N_fail M 2).bind fun r8 =>
      some (r8.1, r8.2)
set_option maxRecDepth 100000 in
set_option maxHeartbeats 4000000 in
theorem c_N_zone {l : Launch} (hls : l.stackTraces = false) {D : va_G} {Ka : Nat → ClassId} {ad : Nat → Nat} {M : rd_M} (p1 : Int32)  {o : Int32 × rd_M} (hf : f_N_zone M p1 = some o) :
    rd_Met l y_N_zone b_N_zone 3 (some .int) (3, 73, 0, 0) rd_T rd_ss D rd_cl (rd_ty Ka) (rm_L Ka) ad M [.ref (ad 0), .int p1] (fun r M1 => r = some (.int o.1) ∧ o.2 = M1) (fun _ => False) := by
  refine rd_body (by decide) (Nat.le_of_ble_eq_true rfl) ?_
  intro p e s m below meth c C9 hlk hret hnt hTh hW ls hl
  have hx := C9.1.1
  have hb := C9.1.2.1
  have hl : lv_has ls 3 [(0, .ref (ad 0)), (1, .int p1)] := hl
  unfold f_N_zone at hf
  refine lv_iload_n hx hb d_N_zone_0 rfl (lv_at hl 1 rfl) ?_
  refine lv_if_ge (tgt := 8) hx hb d_N_zone_1 (by decide) (fun c1 => ?_) (fun c1 => ?_)
  · have hf := rd_t hf c1
    refine lv_aload_n hx hb d_N_zone_8 rfl (lv_at hl 0 rfl) ?_
    refine lv_iload_n hx hb d_N_zone_9 rfl (lv_at hl 1 rfl) ?_
    obtain ⟨r2, qr2, hf⟩ := rd_bind hf
    refine rd_callV (As := [.int p1]) (rest := []) rd_gd C9 hTh hW (c_N_row hls p1 qr2) kc_N_row ki_N_row ks_N_row l_N_183 rfl (lt_N) (ce_N) rfl ⟨Nat.le_of_ble_eq_true rfl, Nat.le_of_ble_eq_true rfl⟩ ⟨Nat.le_of_ble_eq_true rfl, Nat.le_of_ble_eq_true rfl⟩ hl.1 rfl (Nat.le_of_ble_eq_true rfl) d_N_zone_10 (fun E _ _ _ _ hex => hex.elim) (fun rr MM H locs hp hW => ?_)
    obtain ⟨rfl, rfl⟩ := hp
    refine lv_istore_n (lv' := [(2, .int r2), (0, .ref (ad 0)), (1, .int p1)]) hx hb d_N_zone_13 rfl hl (by decide) rfl (fun ls hl => ?_)
    refine lv_iload_n hx hb d_N_zone_14 rfl (lv_at hl 0 rfl) ?_
    refine lv_if_ge (tgt := 26) hx hb d_N_zone_15 (by decide) (fun c3 => ?_) (fun c3 => ?_)
    · have hf := rd_t hf c3
      refine lv_aload_n hx hb d_N_zone_26 rfl (lv_at hl 1 rfl) ?_
      refine lv_iload_n hx hb d_N_zone_27 rfl (lv_at hl 0 rfl) ?_
      obtain ⟨r4, qr4, hf⟩ := rd_bind hf
      refine rd_callV (As := [.int r2]) (rest := []) rd_gd C9 hTh hW (c_N_give hls r2 qr4) kc_N_give ki_N_give ks_N_give l_N_126 rfl (lt_N) (ce_N) rfl ⟨Nat.le_of_ble_eq_true rfl, Nat.le_of_ble_eq_true rfl⟩ ⟨Nat.le_of_ble_eq_true rfl, Nat.le_of_ble_eq_true rfl⟩ hl.1 rfl (Nat.le_of_ble_eq_true rfl) d_N_zone_28 (fun E _ _ _ _ hex => hex.elim) (fun rr MM H locs hp hW => ?_)
      obtain ⟨rfl, rfl⟩ := hp
      obtain rfl := Option.some.inj hf
      exact rd_iret C9 hlk hret hW ⟨rfl, rfl⟩ (by decide) (by decide) d_N_zone_31
    · have hf := rd_f hf c3
      refine lv_aload_n hx hb d_N_zone_18 rfl (lv_at hl 1 rfl) ?_
      refine lv_iconst (v := 2) hx hb d_N_zone_19 (by decide) ?_
      obtain ⟨r5, qr5, hf⟩ := rd_bind hf
      refine rd_callV (As := [.int 2]) (rest := []) rd_gd C9 hTh hW (c_N_fail hls 2 qr5) kc_N_fail ki_N_fail ks_N_fail l_N_122 rfl (lt_N) (ce_N) rfl ⟨Nat.le_of_ble_eq_true rfl, Nat.le_of_ble_eq_true rfl⟩ ⟨Nat.le_of_ble_eq_true rfl, Nat.le_of_ble_eq_true rfl⟩ hl.1 rfl (Nat.le_of_ble_eq_true rfl) d_N_zone_20 (fun E _ _ _ _ hex => hex.elim) (fun rr MM H locs hp hW => ?_)
      obtain ⟨rfl, rfl⟩ := hp
      refine lv_goto (tgt := 31) hx hb d_N_zone_23 (by decide) ?_
      obtain rfl := Option.some.inj hf
      exact rd_iret C9 hlk hret hW ⟨rfl, rfl⟩ (by decide) (by decide) d_N_zone_31
  · have hf := rd_f hf c1
    refine lv_iconst (v := (-1)) hx hb d_N_zone_4 (by decide) ?_
    refine lv_goto (tgt := 13) hx hb d_N_zone_5 (by decide) ?_
    refine lv_istore_n (lv' := [(2, .int (-1)), (0, .ref (ad 0)), (1, .int p1)]) hx hb d_N_zone_13 rfl hl (by decide) rfl (fun ls hl => ?_)
    refine lv_iload_n hx hb d_N_zone_14 rfl (lv_at hl 0 rfl) ?_
    refine lv_if_ge (tgt := 26) hx hb d_N_zone_15 (by decide) (fun c6 => ?_) (fun c6 => ?_)
    · have hf := rd_t hf c6
      refine lv_aload_n hx hb d_N_zone_26 rfl (lv_at hl 1 rfl) ?_
      refine lv_iload_n hx hb d_N_zone_27 rfl (lv_at hl 0 rfl) ?_
      obtain ⟨r7, qr7, hf⟩ := rd_bind hf
      refine rd_callV (As := [.int (-1)]) (rest := []) rd_gd C9 hTh hW (c_N_give hls (-1) qr7) kc_N_give ki_N_give ks_N_give l_N_126 rfl (lt_N) (ce_N) rfl ⟨Nat.le_of_ble_eq_true rfl, Nat.le_of_ble_eq_true rfl⟩ ⟨Nat.le_of_ble_eq_true rfl, Nat.le_of_ble_eq_true rfl⟩ hl.1 rfl (Nat.le_of_ble_eq_true rfl) d_N_zone_28 (fun E _ _ _ _ hex => hex.elim) (fun rr MM H locs hp hW => ?_)
      obtain ⟨rfl, rfl⟩ := hp
      obtain rfl := Option.some.inj hf
      exact rd_iret C9 hlk hret hW ⟨rfl, rfl⟩ (by decide) (by decide) d_N_zone_31
    · have hf := rd_f hf c6
      refine lv_aload_n hx hb d_N_zone_18 rfl (lv_at hl 1 rfl) ?_
      refine lv_iconst (v := 2) hx hb d_N_zone_19 (by decide) ?_
      obtain ⟨r8, qr8, hf⟩ := rd_bind hf
      refine rd_callV (As := [.int 2]) (rest := []) rd_gd C9 hTh hW (c_N_fail hls 2 qr8) kc_N_fail ki_N_fail ks_N_fail l_N_122 rfl (lt_N) (ce_N) rfl ⟨Nat.le_of_ble_eq_true rfl, Nat.le_of_ble_eq_true rfl⟩ ⟨Nat.le_of_ble_eq_true rfl, Nat.le_of_ble_eq_true rfl⟩ hl.1 rfl (Nat.le_of_ble_eq_true rfl) d_N_zone_20 (fun E _ _ _ _ hex => hex.elim) (fun rr MM H locs hp hW => ?_)
      obtain ⟨rfl, rfl⟩ := hp
      refine lv_goto (tgt := 31) hx hb d_N_zone_23 (by decide) ?_
      obtain rfl := Option.some.inj hf
      exact rd_iret C9 hlk hret hW ⟨rfl, rfl⟩ (by decide) (by decide) d_N_zone_31
def lb_N_domains_4 (M : rd_M) (Kf : Int32 → Int32 → Option (Int32)) (rec : Int32 → Int32 → Option (Int32)) (v4_2 : Int32) (v4_1 : Int32) : Option (Int32) :=
  if 10 ≤ v4_2 then
    Kf v4_2 v4_1
  else
    (f_N_noDomain M v4_2).bind fun r2 =>
    if r2 = 0 then
      rec (v4_2 + 1) (v4_1 + 1)
    else
      rec (v4_2 + 1) v4_1
def f_N_domains (M : rd_M) : Option (Int32) :=
  rd_it (fun _ _ => none) (lb_N_domains_4 M (fun w4_2 w4_1 =>
    some w4_1)) 64 0 0
set_option maxRecDepth 100000 in
set_option maxHeartbeats 4000000 in
theorem c_N_domains {l : Launch} (hls : l.stackTraces = false) {D : va_G} {Ka : Nat → ClassId} {ad : Nat → Nat} {M : rd_M}   {o : Int32} (hf : f_N_domains M = some o) :
    rd_Met l y_N_domains b_N_domains 3 (some .int) (1, 21, 0, 0) rd_T rd_ss D rd_cl (rd_ty Ka) (rm_L Ka) ad M [.ref (ad 0)] (fun r M1 => r = some (.int o) ∧ M = M1) (fun _ => False) := by
  refine rd_body (by decide) (Nat.le_of_ble_eq_true rfl) ?_
  intro p e s m below meth c C9 hlk hret hnt hTh hW ls hl
  have hx := C9.1.1
  have hb := C9.1.2.1
  have hl : lv_has ls 3 [(0, .ref (ad 0))] := hl
  unfold f_N_domains at hf
  refine lv_iconst (v := 0) hx hb d_N_domains_0 (by decide) ?_
  refine lv_istore_n (lv' := [(1, .int 0), (0, .ref (ad 0))]) hx hb d_N_domains_1 rfl hl (by decide) rfl (fun ls hl => ?_)
  refine lv_iconst (v := 0) hx hb d_N_domains_2 (by decide) ?_
  refine lv_istore_n (lv' := [(2, .int 0), (1, .int 0), (0, .ref (ad 0))]) hx hb d_N_domains_3 rfl hl (by decide) rfl (fun ls hl => ?_)
  have loop_4 : ∀ (Kf : Int32 → Int32 → Option (Int32)) (hk_4 : ∀ (w4_2 : Int32) (w4_1 : Int32) (H : Heap) (locs : List Loc) (ls : Array Slot), Kf w4_2 w4_1 = some o → rd_W D rd_cl (rm_L Ka) ad (rd_A (rm_L Ka) ad s.heap.size) s.heap M H locs → lv_has ls 3 [(2, .int w4_2), (1, .int w4_1), (0, .ref (ad 0))] → W p l e { frames := 1, cells := 0, slots := 0, locals := 21 } s m [.ref (ad 0)].toArray below meth c H locs 0 0 (rd_Z below (rd_O D rd_cl (rm_L Ka) ad M (rd_A (rm_L Ka) ad s.heap.size) 0 0 (fun r M1 => r = some (.int o) ∧ M = M1) (fun _ => False)) s) (F0 m 27 ls [])) (fu : Nat) (v4_2 : Int32) (v4_1 : Int32) (H : Heap) (locs : List Loc) (ls : Array Slot), rd_it (fun _ _ => none) (lb_N_domains_4 M Kf) fu v4_2 v4_1 = some o → rd_W D rd_cl (rm_L Ka) ad (rd_A (rm_L Ka) ad s.heap.size) s.heap M H locs → lv_has ls 3 [(2, .int v4_2), (1, .int v4_1), (0, .ref (ad 0))] → W p l e { frames := 1, cells := 0, slots := 0, locals := 21 } s m [.ref (ad 0)].toArray below meth c H locs 0 0 (rd_Z below (rd_O D rd_cl (rm_L Ka) ad M (rd_A (rm_L Ka) ad s.heap.size) 0 0 (fun r M1 => r = some (.int o) ∧ M = M1) (fun _ => False)) s) (F0 m 4 ls []) := by
    intro Kf hk_4 fu
    induction fu with
    | zero => intro _ _ H locs ls hf; exact (rd_nf hf).elim
    | succ fu ih_4 =>
      intro v4_2 v4_1 H locs ls hf hW hl
      rw [rd_it_s] at hf
      unfold lb_N_domains_4 at hf
      refine lv_iload_n hx hb d_N_domains_4 rfl (lv_at hl 0 rfl) ?_
      refine lv_bipush (v := 10) hx hb d_N_domains_5 (by decide) ?_
      refine lv_icmp_ge (tgt := 27) hx hb d_N_domains_7 (by decide) (fun c4 => ?_) (fun c4 => ?_)
      · have hf := rd_t hf c4
        exact hk_4 _ _ _ _ _ hf hW (lv_sub hl [0, 1, 2] rfl)
      · have hf := rd_f hf c4
        refine lv_aload_n hx hb d_N_domains_10 rfl (lv_at hl 2 rfl) ?_
        refine lv_iload_n hx hb d_N_domains_11 rfl (lv_at hl 0 rfl) ?_
        obtain ⟨r5, qr5, hf⟩ := rd_bind hf
        refine rd_callV (As := [.int v4_2]) (rest := []) rd_gd C9 hTh hW (c_N_noDomain hls v4_2 qr5) kc_N_noDomain ki_N_noDomain ks_N_noDomain l_N_133 rfl (lt_N) (ce_N) rfl ⟨Nat.le_of_ble_eq_true rfl, Nat.le_of_ble_eq_true rfl⟩ ⟨Nat.le_of_ble_eq_true rfl, Nat.le_of_ble_eq_true rfl⟩ hl.1 rfl (Nat.le_of_ble_eq_true rfl) d_N_domains_12 (fun E _ _ _ _ hex => hex.elim) (fun rr MM H locs hp hW => ?_)
        obtain ⟨rfl, rfl⟩ := hp
        refine lv_if_ne (tgt := 21) hx hb d_N_domains_15 (by decide) (fun c6 => ?_) (fun c6 => ?_)
        · have hf := rd_f hf c6
          refine lv_iinc (v := v4_2 + 1) (lv' := [(2, .int (v4_2 + 1)), (1, .int v4_1), (0, .ref (ad 0))]) hx hb d_N_domains_21 hl (k := 0) rfl rfl (by decide) rfl (fun ls hl => ?_)
          refine lv_goto (tgt := 4) hx hb d_N_domains_24 (by decide) ?_
          exact ih_4 _ _ _ _ _ hf hW (lv_sub hl [0, 1, 2] rfl)
        · have hf := rd_t hf c6
          refine lv_iinc (v := v4_1 + 1) (lv' := [(1, .int (v4_1 + 1)), (2, .int v4_2), (0, .ref (ad 0))]) hx hb d_N_domains_18 hl (k := 1) rfl rfl (by decide) rfl (fun ls hl => ?_)
          refine lv_iinc (v := v4_2 + 1) (lv' := [(2, .int (v4_2 + 1)), (1, .int (v4_1 + 1)), (0, .ref (ad 0))]) hx hb d_N_domains_21 hl (k := 1) rfl rfl (by decide) rfl (fun ls hl => ?_)
          refine lv_goto (tgt := 4) hx hb d_N_domains_24 (by decide) ?_
          exact ih_4 _ _ _ _ _ hf hW (lv_sub hl [0, 1, 2] rfl)
  refine loop_4 _ ?_ 64 _ _ _ _ _ hf hW (lv_sub hl [0, 1, 2] rfl)
  intro w4_2 w4_1 H locs ls hf hW hl
  refine lv_iload_n hx hb d_N_domains_27 rfl (lv_at hl 1 rfl) ?_
  obtain rfl := Option.some.inj hf
  exact rd_iret C9 hlk hret hW ⟨rfl, rfl⟩ (by decide) (by decide) d_N_domains_28
def f_N_count (M : rd_M) (p1 : Int32) : Option (Int32 × rd_M) :=
  if p1 = 0 then
    (f_N_give M ((M 0).1 1)).bind fun r2 =>
    some (r2.1, r2.2)
  else if p1 = 1 then
    (f_N_domains M).bind fun r4 =>
    (f_N_give M r4).bind fun r5 =>
    some (r5.1, r5.2)
  else if p1 = 2 then
    (f_N_left M 0).bind fun r7 =>
    (f_N_give M r7).bind fun r8 =>
    some (r8.1, r8.2)
  else if p1 = 3 then
    (f_N_left M 1).bind fun r10 =>
    (f_N_give M r10).bind fun r11 =>
    some (r11.1, r11.2)
  else if p1 = 4 then
    (f_N_give M (((((M 4).1 0) + ((M 4).1 1)) + ((M 4).1 2)) + ((M 4).1 3))).bind fun r13 =>
    some (r13.1, r13.2)
  else if p1 = 5 then
    (f_N_row M (-1)).bind fun r15 =>
    (f_N_give M ((-1) - r15)).bind fun r16 =>
    some (r16.1, r16.2)
  else
    (f_N_give M (-1)).bind fun r17 =>
    some (r17.1, r17.2)
set_option maxRecDepth 100000 in
set_option maxHeartbeats 4000000 in
theorem c_N_count {l : Launch} (hls : l.stackTraces = false) {D : va_G} {Ka : Nat → ClassId} {ad : Nat → Nat} {M : rd_M} (p1 : Int32)  {o : Int32 × rd_M} (hf : f_N_count M p1 = some o) :
    rd_Met l y_N_count b_N_count 2 (some .int) (3, 73, 0, 0) rd_T rd_ss D rd_cl (rd_ty Ka) (rm_L Ka) ad M [.ref (ad 0), .int p1] (fun r M1 => r = some (.int o.1) ∧ o.2 = M1) (fun _ => False) := by
  refine rd_body (by decide) (Nat.le_of_ble_eq_true rfl) ?_
  intro p e s m below meth c C9 hlk hret hnt hTh hW ls hl
  have hx := C9.1.1
  have hb := C9.1.2.1
  have hl : lv_has ls 2 [(0, .ref (ad 0)), (1, .int p1)] := hl
  unfold f_N_count at hf
  refine lv_iload_n hx hb d_N_count_0 rfl (lv_at hl 1 rfl) ?_
  by_cases c1 : p1 = 0
  · have hf := rd_t hf c1
    refine lv_tableIn (off := 39) (tgt := 40) hx hb d_N_count_1 (by rw [c1]; decide) (by rw [c1]; decide) (by rw [c1]; rfl) (by decide) ?_
    refine lv_aload_n hx hb d_N_count_40 rfl (lv_at hl 0 rfl) ?_
    refine lv_aload_n hx hb d_N_count_41 rfl (lv_at hl 0 rfl) ?_
    refine gf_N_day C9 hW l_N_98 d_N_count_42 ?_
    obtain ⟨r2, qr2, hf⟩ := rd_bind hf
    refine rd_callV (As := [.int ((M 0).1 1)]) (rest := []) rd_gd C9 hTh hW (c_N_give hls ((M 0).1 1) qr2) kc_N_give ki_N_give ks_N_give l_N_126 rfl (lt_N) (ce_N) rfl ⟨Nat.le_of_ble_eq_true rfl, Nat.le_of_ble_eq_true rfl⟩ ⟨Nat.le_of_ble_eq_true rfl, Nat.le_of_ble_eq_true rfl⟩ hl.1 rfl (Nat.le_of_ble_eq_true rfl) d_N_count_45 (fun E _ _ _ _ hex => hex.elim) (fun rr MM H locs hp hW => ?_)
    obtain ⟨rfl, rfl⟩ := hp
    obtain rfl := Option.some.inj hf
    exact rd_iret C9 hlk hret hW ⟨rfl, rfl⟩ (by decide) (by decide) d_N_count_48
  have hf := rd_f hf c1
  by_cases c3 : p1 = 1
  · have hf := rd_t hf c3
    refine lv_tableIn (off := 48) (tgt := 49) hx hb d_N_count_1 (by rw [c3]; decide) (by rw [c3]; decide) (by rw [c3]; rfl) (by decide) ?_
    refine lv_aload_n hx hb d_N_count_49 rfl (lv_at hl 0 rfl) ?_
    refine lv_aload_n hx hb d_N_count_50 rfl (lv_at hl 0 rfl) ?_
    obtain ⟨r4, qr4, hf⟩ := rd_bind hf
    refine rd_callV (As := []) (rest := [.ref (ad 0)]) rd_gd C9 hTh hW (c_N_domains hls qr4) kc_N_domains ki_N_domains ks_N_domains l_N_186 rfl (lt_N) (ce_N) rfl ⟨Nat.le_of_ble_eq_true rfl, Nat.le_of_ble_eq_true rfl⟩ ⟨Nat.le_of_ble_eq_true rfl, Nat.le_of_ble_eq_true rfl⟩ hl.1 rfl (Nat.le_of_ble_eq_true rfl) d_N_count_51 (fun E _ _ _ _ hex => hex.elim) (fun rr MM H locs hp hW => ?_)
    obtain ⟨rfl, rfl⟩ := hp
    obtain ⟨r5, qr5, hf⟩ := rd_bind hf
    refine rd_callV (As := [.int r4]) (rest := []) rd_gd C9 hTh hW (c_N_give hls r4 qr5) kc_N_give ki_N_give ks_N_give l_N_126 rfl (lt_N) (ce_N) rfl ⟨Nat.le_of_ble_eq_true rfl, Nat.le_of_ble_eq_true rfl⟩ ⟨Nat.le_of_ble_eq_true rfl, Nat.le_of_ble_eq_true rfl⟩ hl.1 rfl (Nat.le_of_ble_eq_true rfl) d_N_count_54 (fun E _ _ _ _ hex => hex.elim) (fun rr MM H locs hp hW => ?_)
    obtain ⟨rfl, rfl⟩ := hp
    obtain rfl := Option.some.inj hf
    exact rd_iret C9 hlk hret hW ⟨rfl, rfl⟩ (by decide) (by decide) d_N_count_57
  have hf := rd_f hf c3
  by_cases c6 : p1 = 2
  · have hf := rd_t hf c6
    refine lv_tableIn (off := 57) (tgt := 58) hx hb d_N_count_1 (by rw [c6]; decide) (by rw [c6]; decide) (by rw [c6]; rfl) (by decide) ?_
    refine lv_aload_n hx hb d_N_count_58 rfl (lv_at hl 0 rfl) ?_
    refine lv_aload_n hx hb d_N_count_59 rfl (lv_at hl 0 rfl) ?_
    refine lv_iconst (v := 0) hx hb d_N_count_60 (by decide) ?_
    obtain ⟨r7, qr7, hf⟩ := rd_bind hf
    refine rd_callV (As := [.int 0]) (rest := [.ref (ad 0)]) rd_gd C9 hTh hW (c_N_left hls 0 qr7) kc_N_left ki_N_left ks_N_left l_N_145 rfl (lt_N) (ce_N) rfl ⟨Nat.le_of_ble_eq_true rfl, Nat.le_of_ble_eq_true rfl⟩ ⟨Nat.le_of_ble_eq_true rfl, Nat.le_of_ble_eq_true rfl⟩ hl.1 rfl (Nat.le_of_ble_eq_true rfl) d_N_count_61 (fun E _ _ _ _ hex => hex.elim) (fun rr MM H locs hp hW => ?_)
    obtain ⟨rfl, rfl⟩ := hp
    obtain ⟨r8, qr8, hf⟩ := rd_bind hf
    refine rd_callV (As := [.int r7]) (rest := []) rd_gd C9 hTh hW (c_N_give hls r7 qr8) kc_N_give ki_N_give ks_N_give l_N_126 rfl (lt_N) (ce_N) rfl ⟨Nat.le_of_ble_eq_true rfl, Nat.le_of_ble_eq_true rfl⟩ ⟨Nat.le_of_ble_eq_true rfl, Nat.le_of_ble_eq_true rfl⟩ hl.1 rfl (Nat.le_of_ble_eq_true rfl) d_N_count_64 (fun E _ _ _ _ hex => hex.elim) (fun rr MM H locs hp hW => ?_)
    obtain ⟨rfl, rfl⟩ := hp
    obtain rfl := Option.some.inj hf
    exact rd_iret C9 hlk hret hW ⟨rfl, rfl⟩ (by decide) (by decide) d_N_count_67
  have hf := rd_f hf c6
  by_cases c9 : p1 = 3
  · have hf := rd_t hf c9
    refine lv_tableIn (off := 67) (tgt := 68) hx hb d_N_count_1 (by rw [c9]; decide) (by rw [c9]; decide) (by rw [c9]; rfl) (by decide) ?_
    refine lv_aload_n hx hb d_N_count_68 rfl (lv_at hl 0 rfl) ?_
    refine lv_aload_n hx hb d_N_count_69 rfl (lv_at hl 0 rfl) ?_
    refine lv_iconst (v := 1) hx hb d_N_count_70 (by decide) ?_
    obtain ⟨r10, qr10, hf⟩ := rd_bind hf
    refine rd_callV (As := [.int 1]) (rest := [.ref (ad 0)]) rd_gd C9 hTh hW (c_N_left hls 1 qr10) kc_N_left ki_N_left ks_N_left l_N_145 rfl (lt_N) (ce_N) rfl ⟨Nat.le_of_ble_eq_true rfl, Nat.le_of_ble_eq_true rfl⟩ ⟨Nat.le_of_ble_eq_true rfl, Nat.le_of_ble_eq_true rfl⟩ hl.1 rfl (Nat.le_of_ble_eq_true rfl) d_N_count_71 (fun E _ _ _ _ hex => hex.elim) (fun rr MM H locs hp hW => ?_)
    obtain ⟨rfl, rfl⟩ := hp
    obtain ⟨r11, qr11, hf⟩ := rd_bind hf
    refine rd_callV (As := [.int r10]) (rest := []) rd_gd C9 hTh hW (c_N_give hls r10 qr11) kc_N_give ki_N_give ks_N_give l_N_126 rfl (lt_N) (ce_N) rfl ⟨Nat.le_of_ble_eq_true rfl, Nat.le_of_ble_eq_true rfl⟩ ⟨Nat.le_of_ble_eq_true rfl, Nat.le_of_ble_eq_true rfl⟩ hl.1 rfl (Nat.le_of_ble_eq_true rfl) d_N_count_74 (fun E _ _ _ _ hex => hex.elim) (fun rr MM H locs hp hW => ?_)
    obtain ⟨rfl, rfl⟩ := hp
    obtain rfl := Option.some.inj hf
    exact rd_iret C9 hlk hret hW ⟨rfl, rfl⟩ (by decide) (by decide) d_N_count_77
  have hf := rd_f hf c9
  by_cases c12 : p1 = 4
  · have hf := rd_t hf c12
    refine lv_tableIn (off := 77) (tgt := 78) hx hb d_N_count_1 (by rw [c12]; decide) (by rw [c12]; decide) (by rw [c12]; rfl) (by decide) ?_
    refine lv_aload_n hx hb d_N_count_78 rfl (lv_at hl 0 rfl) ?_
    refine lv_aload_n hx hb d_N_count_79 rfl (lv_at hl 0 rfl) ?_
    refine gf_N_messages C9 hW l_N_21 d_N_count_80 ?_
    refine lv_iconst (v := 0) hx hb d_N_count_83 (by decide) ?_
    refine al_m_messages C9 hW (i := 0) (by decide) (show rd_in 0 4 by decide) d_N_count_84 ?_
    refine lv_aload_n hx hb d_N_count_85 rfl (lv_at hl 0 rfl) ?_
    refine gf_N_messages C9 hW l_N_21 d_N_count_86 ?_
    refine lv_iconst (v := 1) hx hb d_N_count_89 (by decide) ?_
    refine al_m_messages C9 hW (i := 1) (by decide) (show rd_in 1 4 by decide) d_N_count_90 ?_
    refine lv_iadd hx hb d_N_count_91 ?_
    refine lv_aload_n hx hb d_N_count_92 rfl (lv_at hl 0 rfl) ?_
    refine gf_N_messages C9 hW l_N_21 d_N_count_93 ?_
    refine lv_iconst (v := 2) hx hb d_N_count_96 (by decide) ?_
    refine al_m_messages C9 hW (i := 2) (by decide) (show rd_in 2 4 by decide) d_N_count_97 ?_
    refine lv_iadd hx hb d_N_count_98 ?_
    refine lv_aload_n hx hb d_N_count_99 rfl (lv_at hl 0 rfl) ?_
    refine gf_N_messages C9 hW l_N_21 d_N_count_100 ?_
    refine lv_iconst (v := 3) hx hb d_N_count_103 (by decide) ?_
    refine al_m_messages C9 hW (i := 3) (by decide) (show rd_in 3 4 by decide) d_N_count_104 ?_
    refine lv_iadd hx hb d_N_count_105 ?_
    obtain ⟨r13, qr13, hf⟩ := rd_bind hf
    refine rd_callV (As := [.int (((((M 4).1 0) + ((M 4).1 1)) + ((M 4).1 2)) + ((M 4).1 3))]) (rest := []) rd_gd C9 hTh hW (c_N_give hls (((((M 4).1 0) + ((M 4).1 1)) + ((M 4).1 2)) + ((M 4).1 3)) qr13) kc_N_give ki_N_give ks_N_give l_N_126 rfl (lt_N) (ce_N) rfl ⟨Nat.le_of_ble_eq_true rfl, Nat.le_of_ble_eq_true rfl⟩ ⟨Nat.le_of_ble_eq_true rfl, Nat.le_of_ble_eq_true rfl⟩ hl.1 rfl (Nat.le_of_ble_eq_true rfl) d_N_count_106 (fun E _ _ _ _ hex => hex.elim) (fun rr MM H locs hp hW => ?_)
    obtain ⟨rfl, rfl⟩ := hp
    obtain rfl := Option.some.inj hf
    exact rd_iret C9 hlk hret hW ⟨rfl, rfl⟩ (by decide) (by decide) d_N_count_109
  have hf := rd_f hf c12
  by_cases c14 : p1 = 5
  · have hf := rd_t hf c14
    refine lv_tableIn (off := 109) (tgt := 110) hx hb d_N_count_1 (by rw [c14]; decide) (by rw [c14]; decide) (by rw [c14]; rfl) (by decide) ?_
    refine lv_aload_n hx hb d_N_count_110 rfl (lv_at hl 0 rfl) ?_
    refine lv_iconst (v := (-1)) hx hb d_N_count_111 (by decide) ?_
    refine lv_aload_n hx hb d_N_count_112 rfl (lv_at hl 0 rfl) ?_
    refine lv_iconst (v := (-1)) hx hb d_N_count_113 (by decide) ?_
    obtain ⟨r15, qr15, hf⟩ := rd_bind hf
    refine rd_callV (As := [.int (-1)]) (rest := [.int (-1), .ref (ad 0)]) rd_gd C9 hTh hW (c_N_row hls (-1) qr15) kc_N_row ki_N_row ks_N_row l_N_183 rfl (lt_N) (ce_N) rfl ⟨Nat.le_of_ble_eq_true rfl, Nat.le_of_ble_eq_true rfl⟩ ⟨Nat.le_of_ble_eq_true rfl, Nat.le_of_ble_eq_true rfl⟩ hl.1 rfl (Nat.le_of_ble_eq_true rfl) d_N_count_114 (fun E _ _ _ _ hex => hex.elim) (fun rr MM H locs hp hW => ?_)
    obtain ⟨rfl, rfl⟩ := hp
    refine lv_isub hx hb d_N_count_117 ?_
    obtain ⟨r16, qr16, hf⟩ := rd_bind hf
    refine rd_callV (As := [.int ((-1) - r15)]) (rest := []) rd_gd C9 hTh hW (c_N_give hls ((-1) - r15) qr16) kc_N_give ki_N_give ks_N_give l_N_126 rfl (lt_N) (ce_N) rfl ⟨Nat.le_of_ble_eq_true rfl, Nat.le_of_ble_eq_true rfl⟩ ⟨Nat.le_of_ble_eq_true rfl, Nat.le_of_ble_eq_true rfl⟩ hl.1 rfl (Nat.le_of_ble_eq_true rfl) d_N_count_118 (fun E _ _ _ _ hex => hex.elim) (fun rr MM H locs hp hW => ?_)
    obtain ⟨rfl, rfl⟩ := hp
    obtain rfl := Option.some.inj hf
    exact rd_iret C9 hlk hret hW ⟨rfl, rfl⟩ (by decide) (by decide) d_N_count_121
  have hf := rd_f hf c14
  refine lv_tableOut (tgt := 122) hx hb d_N_count_1 (by
    have nc1 : ¬ (p1).toInt = 0 := fun h => c1 (Int32.toInt_inj.mp h)
    have nc3 : ¬ (p1).toInt = 1 := fun h => c3 (Int32.toInt_inj.mp h)
    have nc6 : ¬ (p1).toInt = 2 := fun h => c6 (Int32.toInt_inj.mp h)
    have nc9 : ¬ (p1).toInt = 3 := fun h => c9 (Int32.toInt_inj.mp h)
    have nc12 : ¬ (p1).toInt = 4 := fun h => c12 (Int32.toInt_inj.mp h)
    have nc14 : ¬ (p1).toInt = 5 := fun h => c14 (Int32.toInt_inj.mp h)
    omega) (by decide) ?_
  refine lv_aload_n hx hb d_N_count_122 rfl (lv_at hl 0 rfl) ?_
  refine lv_iconst (v := (-1)) hx hb d_N_count_123 (by decide) ?_
  obtain ⟨r17, qr17, hf⟩ := rd_bind hf
  refine rd_callV (As := [.int (-1)]) (rest := []) rd_gd C9 hTh hW (c_N_give hls (-1) qr17) kc_N_give ki_N_give ks_N_give l_N_126 rfl (lt_N) (ce_N) rfl ⟨Nat.le_of_ble_eq_true rfl, Nat.le_of_ble_eq_true rfl⟩ ⟨Nat.le_of_ble_eq_true rfl, Nat.le_of_ble_eq_true rfl⟩ hl.1 rfl (Nat.le_of_ble_eq_true rfl) d_N_count_124 (fun E _ _ _ _ hex => hex.elim) (fun rr MM H locs hp hW => ?_)
  obtain ⟨rfl, rfl⟩ := hp
  obtain rfl := Option.some.inj hf
  exact rd_iret C9 hlk hret hW ⟨rfl, rfl⟩ (by decide) (by decide) d_N_count_127
