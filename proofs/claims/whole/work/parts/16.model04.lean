def f_N_change (M : rd_M) (p1 : Int32) (p2 : Int32) (p3 : Int32) (p4 : Int32) (p5 : Int32) : Option (Int32 × rd_M) :=
  (f_N_in M p1 0 3).bind fun r1 =>
  if r1 = 0 then
    (f_N_fail M 1).bind fun r3 =>
    some (r3.1, r3.2)
  else
    (f_N_in M p2 0 9).bind fun r4 =>
    if r4 = 0 then
      (f_N_fail M 1).bind fun r6 =>
      some (r6.1, r6.2)
    else
      (f_N_in M p3 0 1).bind fun r7 =>
      if r7 = 0 then
        (f_N_fail M 1).bind fun r63 =>
        some (r63.1, r63.2)
      else
        (f_N_noDomain M p2).bind fun r9 =>
        if r9 = 0 then
          (f_N_noThing M p3 p4).bind fun r12 =>
          if r12 = 0 then
            (f_N_barred M p1 p2 1 0).bind fun r14 =>
            if r14 ≤ 0 then
              (f_N_placeOf M p2 p3 p4).bind fun r16 =>
              if rd_in ((2 * p2) + p3) 20 then
              if p5 = 0 then
                if r16 < 0 then
                  (f_N_fail M 4).bind fun r20 =>
                  some (r20.1, r20.2)
                else
                  if p3 = 0 then
                    if ((M 19).1 (((2 * p2) + p3).toNatClampNeg)) = 1 then
                      (f_N_fail M 4).bind fun r45 =>
                      some (r45.1, r45.2)
                    else
                      if p5 = 0 then
                        (f_N_takeOff M p2 p3 r16).bind fun r35 =>
                        if rd_in ((2 * p2) + p3) 20 then
                        (f_N_give r35 ((r35 19).1 (((2 * p2) + p3).toNatClampNeg))).bind fun r37 =>
                        some (r37.1, r37.2)
                        else none
                      else
                        if rd_in (((6 * p2) + (3 * p3)) + ((M 19).1 (((2 * p2) + p3).toNatClampNeg))) 60 then
                        rd_k (rd_iU M 18 ((((6 * p2) + (3 * p3)) + ((M 19).1 (((2 * p2) + p3).toNatClampNeg))).toNatClampNeg) p4) fun M39 =>
                        if rd_in ((2 * p2) + p3) 20 then
                        if rd_in ((2 * p2) + p3) 20 then
                        rd_k (rd_iU M39 19 (((2 * p2) + p3).toNatClampNeg) (((M39 19).1 (((2 * p2) + p3).toNatClampNeg)) + 1)) fun M42 =>
                        if rd_in ((2 * p2) + p3) 20 then
                        (f_N_give M42 ((M42 19).1 (((2 * p2) + p3).toNatClampNeg))).bind fun r44 =>
                        some (r44.1, r44.2)
                        else none
                        else none
                        else none
                        else none
                  else
                    if p5 = 0 then
                      (f_N_takeOff M p2 p3 r16).bind fun r23 =>
                      if rd_in ((2 * p2) + p3) 20 then
                      (f_N_give r23 ((r23 19).1 (((2 * p2) + p3).toNatClampNeg))).bind fun r25 =>
                      some (r25.1, r25.2)
                      else none
                    else
                      if rd_in (((6 * p2) + (3 * p3)) + ((M 19).1 (((2 * p2) + p3).toNatClampNeg))) 60 then
                      rd_k (rd_iU M 18 ((((6 * p2) + (3 * p3)) + ((M 19).1 (((2 * p2) + p3).toNatClampNeg))).toNatClampNeg) p4) fun M27 =>
                      if rd_in ((2 * p2) + p3) 20 then
                      if rd_in ((2 * p2) + p3) 20 then
                      rd_k (rd_iU M27 19 (((2 * p2) + p3).toNatClampNeg) (((M27 19).1 (((2 * p2) + p3).toNatClampNeg)) + 1)) fun M30 =>
                      if rd_in ((2 * p2) + p3) 20 then
                      (f_N_give M30 ((M30 19).1 (((2 * p2) + p3).toNatClampNeg))).bind fun r32 =>
                      some (r32.1, r32.2)
                      else none
                      else none
                      else none
                      else none
              else
                if 0 ≤ r16 then
                  (f_N_fail M 4).bind fun r47 =>
                  some (r47.1, r47.2)
                else
                  if ((M 19).1 (((2 * p2) + p3).toNatClampNeg)) = 3 then
                    (f_N_fail M 4).bind fun r60 =>
                    some (r60.1, r60.2)
                  else
                    if p5 = 0 then
                      (f_N_takeOff M p2 p3 r16).bind fun r50 =>
                      if rd_in ((2 * p2) + p3) 20 then
                      (f_N_give r50 ((r50 19).1 (((2 * p2) + p3).toNatClampNeg))).bind fun r52 =>
                      some (r52.1, r52.2)
                      else none
                    else
                      if rd_in (((6 * p2) + (3 * p3)) + ((M 19).1 (((2 * p2) + p3).toNatClampNeg))) 60 then
                      rd_k (rd_iU M 18 ((((6 * p2) + (3 * p3)) + ((M 19).1 (((2 * p2) + p3).toNatClampNeg))).toNatClampNeg) p4) fun M54 =>
                      if rd_in ((2 * p2) + p3) 20 then
                      if rd_in ((2 * p2) + p3) 20 then
                      rd_k (rd_iU M54 19 (((2 * p2) + p3).toNatClampNeg) (((M54 19).1 (((2 * p2) + p3).toNatClampNeg)) + 1)) fun M57 =>
                      if rd_in ((2 * p2) + p3) 20 then
                      (f_N_give M57 ((M57 19).1 (((2 * p2) + p3).toNatClampNeg))).bind fun r59 =>
                      some (r59.1, r59.2)
                      else none
                      else none
                      else none
                      else none
              else none
            else
              (f_N_fail M r14).bind fun r61 =>
              some (r61.1, r61.2)
          else
            (f_N_fail M 2).bind fun r62 =>
            some (r62.1, r62.2)
        else
          (f_N_fail M 2).bind fun r11 =>
          some (r11.1, r11.2)
set_option maxRecDepth 100000 in
set_option maxHeartbeats 4000000 in
theorem c_N_change {l : Launch} (hls : l.stackTraces = false) {D : va_G} {Ka : Nat → ClassId} {ad : Nat → Nat} {M : rd_M} (p1 : Int32) (p2 : Int32) (p3 : Int32) (p4 : Int32) (p5 : Int32)  {o : Int32 × rd_M} (hf : f_N_change M p1 p2 p3 p4 p5 = some o) :
    rd_Met l y_N_change b_N_change 9 (some .int) (2, 45, 0, 0) rd_T rd_ss D rd_cl (rd_ty Ka) (rm_L Ka) ad M [.ref (ad 0), .int p1, .int p2, .int p3, .int p4, .int p5] (fun r M1 => r = some (.int o.1) ∧ o.2 = M1) (fun _ => False) := by
  refine rd_body (by decide) (Nat.le_of_ble_eq_true rfl) ?_
  intro p e s m below meth c C9 hlk hret hnt hTh hW ls hl
  have hx := C9.1.1
  have hb := C9.1.2.1
  have hl : lv_has ls 9 [(0, .ref (ad 0)), (1, .int p1), (2, .int p2), (3, .int p3), (4, .int p4), (5, .int p5)] := hl
  unfold f_N_change at hf
  refine lv_iload_n hx hb d_N_change_0 rfl (lv_at hl 1 rfl) ?_
  refine lv_iconst (v := 0) hx hb d_N_change_1 (by decide) ?_
  refine lv_iconst (v := 3) hx hb d_N_change_2 (by decide) ?_
  obtain ⟨r1, qr1, hf⟩ := rd_bind hf
  refine rd_callS (As := [.int p1, .int 0, .int 3]) (rest := []) rd_gd C9 hTh hW (c_N_in hls p1 0 3 qr1) kc_N_in ki_N_in l_N_116 rfl ⟨Nat.le_of_ble_eq_true rfl, Nat.le_of_ble_eq_true rfl⟩ ⟨Nat.le_of_ble_eq_true rfl, Nat.le_of_ble_eq_true rfl⟩ hl.1 rfl (Nat.le_of_ble_eq_true rfl) d_N_change_3 (fun E _ _ _ _ hex => hex.elim) (fun rr MM H locs hp hW => ?_)
  obtain ⟨rfl, rfl⟩ := hp
  refine lv_if_eq (tgt := 28) hx hb d_N_change_6 (by decide) (fun c2 => ?_) (fun c2 => ?_)
  · have hf := rd_t hf c2
    refine lv_aload_n hx hb d_N_change_28 rfl (lv_at hl 0 rfl) ?_
    refine lv_iconst (v := 1) hx hb d_N_change_29 (by decide) ?_
    obtain ⟨r3, qr3, hf⟩ := rd_bind hf
    refine rd_callV (As := [.int 1]) (rest := []) rd_gd C9 hTh hW (c_N_fail hls 1 qr3) kc_N_fail ki_N_fail ks_N_fail l_N_122 rfl (lt_N) (ce_N) rfl ⟨Nat.le_of_ble_eq_true rfl, Nat.le_of_ble_eq_true rfl⟩ ⟨Nat.le_of_ble_eq_true rfl, Nat.le_of_ble_eq_true rfl⟩ hl.1 rfl (Nat.le_of_ble_eq_true rfl) d_N_change_30 (fun E _ _ _ _ hex => hex.elim) (fun rr MM H locs hp hW => ?_)
    obtain ⟨rfl, rfl⟩ := hp
    obtain rfl := Option.some.inj hf
    exact rd_iret C9 hlk hret hW ⟨rfl, rfl⟩ (by decide) (by decide) d_N_change_33
  · have hf := rd_f hf c2
    refine lv_iload_n hx hb d_N_change_9 rfl (lv_at hl 2 rfl) ?_
    refine lv_iconst (v := 0) hx hb d_N_change_10 (by decide) ?_
    refine lv_bipush (v := 9) hx hb d_N_change_11 (by decide) ?_
    obtain ⟨r4, qr4, hf⟩ := rd_bind hf
    refine rd_callS (As := [.int p2, .int 0, .int 9]) (rest := []) rd_gd C9 hTh hW (c_N_in hls p2 0 9 qr4) kc_N_in ki_N_in l_N_116 rfl ⟨Nat.le_of_ble_eq_true rfl, Nat.le_of_ble_eq_true rfl⟩ ⟨Nat.le_of_ble_eq_true rfl, Nat.le_of_ble_eq_true rfl⟩ hl.1 rfl (Nat.le_of_ble_eq_true rfl) d_N_change_13 (fun E _ _ _ _ hex => hex.elim) (fun rr MM H locs hp hW => ?_)
    obtain ⟨rfl, rfl⟩ := hp
    refine lv_if_eq (tgt := 28) hx hb d_N_change_16 (by decide) (fun c5 => ?_) (fun c5 => ?_)
    · have hf := rd_t hf c5
      refine lv_aload_n hx hb d_N_change_28 rfl (lv_at hl 0 rfl) ?_
      refine lv_iconst (v := 1) hx hb d_N_change_29 (by decide) ?_
      obtain ⟨r6, qr6, hf⟩ := rd_bind hf
      refine rd_callV (As := [.int 1]) (rest := []) rd_gd C9 hTh hW (c_N_fail hls 1 qr6) kc_N_fail ki_N_fail ks_N_fail l_N_122 rfl (lt_N) (ce_N) rfl ⟨Nat.le_of_ble_eq_true rfl, Nat.le_of_ble_eq_true rfl⟩ ⟨Nat.le_of_ble_eq_true rfl, Nat.le_of_ble_eq_true rfl⟩ hl.1 rfl (Nat.le_of_ble_eq_true rfl) d_N_change_30 (fun E _ _ _ _ hex => hex.elim) (fun rr MM H locs hp hW => ?_)
      obtain ⟨rfl, rfl⟩ := hp
      obtain rfl := Option.some.inj hf
      exact rd_iret C9 hlk hret hW ⟨rfl, rfl⟩ (by decide) (by decide) d_N_change_33
    · have hf := rd_f hf c5
      refine lv_iload_n hx hb d_N_change_19 rfl (lv_at hl 3 rfl) ?_
      refine lv_iconst (v := 0) hx hb d_N_change_20 (by decide) ?_
      refine lv_iconst (v := 1) hx hb d_N_change_21 (by decide) ?_
      obtain ⟨r7, qr7, hf⟩ := rd_bind hf
      refine rd_callS (As := [.int p3, .int 0, .int 1]) (rest := []) rd_gd C9 hTh hW (c_N_in hls p3 0 1 qr7) kc_N_in ki_N_in l_N_116 rfl ⟨Nat.le_of_ble_eq_true rfl, Nat.le_of_ble_eq_true rfl⟩ ⟨Nat.le_of_ble_eq_true rfl, Nat.le_of_ble_eq_true rfl⟩ hl.1 rfl (Nat.le_of_ble_eq_true rfl) d_N_change_22 (fun E _ _ _ _ hex => hex.elim) (fun rr MM H locs hp hW => ?_)
      obtain ⟨rfl, rfl⟩ := hp
      refine lv_if_ne (tgt := 34) hx hb d_N_change_25 (by decide) (fun c8 => ?_) (fun c8 => ?_)
      · have hf := rd_f hf c8
        refine lv_aload_n hx hb d_N_change_34 rfl (lv_at hl 0 rfl) ?_
        refine lv_iload_n hx hb d_N_change_35 rfl (lv_at hl 2 rfl) ?_
        obtain ⟨r9, qr9, hf⟩ := rd_bind hf
        refine rd_callV (As := [.int p2]) (rest := []) rd_gd C9 hTh hW (c_N_noDomain hls p2 qr9) kc_N_noDomain ki_N_noDomain ks_N_noDomain l_N_133 rfl (lt_N) (ce_N) rfl ⟨Nat.le_of_ble_eq_true rfl, Nat.le_of_ble_eq_true rfl⟩ ⟨Nat.le_of_ble_eq_true rfl, Nat.le_of_ble_eq_true rfl⟩ hl.1 rfl (Nat.le_of_ble_eq_true rfl) d_N_change_36 (fun E _ _ _ _ hex => hex.elim) (fun rr MM H locs hp hW => ?_)
        obtain ⟨rfl, rfl⟩ := hp
        refine lv_if_ne (tgt := 52) hx hb d_N_change_39 (by decide) (fun c10 => ?_) (fun c10 => ?_)
        · have hf := rd_f hf c10
          refine lv_aload_n hx hb d_N_change_52 rfl (lv_at hl 0 rfl) ?_
          refine lv_iconst (v := 2) hx hb d_N_change_53 (by decide) ?_
          obtain ⟨r11, qr11, hf⟩ := rd_bind hf
          refine rd_callV (As := [.int 2]) (rest := []) rd_gd C9 hTh hW (c_N_fail hls 2 qr11) kc_N_fail ki_N_fail ks_N_fail l_N_122 rfl (lt_N) (ce_N) rfl ⟨Nat.le_of_ble_eq_true rfl, Nat.le_of_ble_eq_true rfl⟩ ⟨Nat.le_of_ble_eq_true rfl, Nat.le_of_ble_eq_true rfl⟩ hl.1 rfl (Nat.le_of_ble_eq_true rfl) d_N_change_54 (fun E _ _ _ _ hex => hex.elim) (fun rr MM H locs hp hW => ?_)
          obtain ⟨rfl, rfl⟩ := hp
          obtain rfl := Option.some.inj hf
          exact rd_iret C9 hlk hret hW ⟨rfl, rfl⟩ (by decide) (by decide) d_N_change_57
        · have hf := rd_t hf c10
          refine lv_aload_n hx hb d_N_change_42 rfl (lv_at hl 0 rfl) ?_
          refine lv_iload_n hx hb d_N_change_43 rfl (lv_at hl 3 rfl) ?_
          refine lv_iload hx hb d_N_change_44 (lv_at hl 4 rfl) ?_
          obtain ⟨r12, qr12, hf⟩ := rd_bind hf
          refine rd_callV (As := [.int p3, .int p4]) (rest := []) rd_gd C9 hTh hW (c_N_noThing hls p3 p4 qr12) kc_N_noThing ki_N_noThing ks_N_noThing l_N_137 rfl (lt_N) (ce_N) rfl ⟨Nat.le_of_ble_eq_true rfl, Nat.le_of_ble_eq_true rfl⟩ ⟨Nat.le_of_ble_eq_true rfl, Nat.le_of_ble_eq_true rfl⟩ hl.1 rfl (Nat.le_of_ble_eq_true rfl) d_N_change_46 (fun E _ _ _ _ hex => hex.elim) (fun rr MM H locs hp hW => ?_)
          obtain ⟨rfl, rfl⟩ := hp
          refine lv_if_eq (tgt := 58) hx hb d_N_change_49 (by decide) (fun c13 => ?_) (fun c13 => ?_)
          · have hf := rd_t hf c13
            refine lv_aload_n hx hb d_N_change_58 rfl (lv_at hl 0 rfl) ?_
            refine lv_iload_n hx hb d_N_change_59 rfl (lv_at hl 1 rfl) ?_
            refine lv_iload_n hx hb d_N_change_60 rfl (lv_at hl 2 rfl) ?_
            refine lv_iconst (v := 1) hx hb d_N_change_61 (by decide) ?_
            refine lv_iconst (v := 0) hx hb d_N_change_62 (by decide) ?_
            obtain ⟨r14, qr14, hf⟩ := rd_bind hf
            refine rd_callV (As := [.int p1, .int p2, .int 1, .int 0]) (rest := []) rd_gd C9 hTh hW (c_N_barred hls p1 p2 1 0 qr14) kc_N_barred ki_N_barred ks_N_barred l_N_158 rfl (lt_N) (ce_N) rfl ⟨Nat.le_of_ble_eq_true rfl, Nat.le_of_ble_eq_true rfl⟩ ⟨Nat.le_of_ble_eq_true rfl, Nat.le_of_ble_eq_true rfl⟩ hl.1 rfl (Nat.le_of_ble_eq_true rfl) d_N_change_63 (fun E _ _ _ _ hex => hex.elim) (fun rr MM H locs hp hW => ?_)
            obtain ⟨rfl, rfl⟩ := hp
            refine lv_istore (lv' := [(6, .int r14), (0, .ref (ad 0)), (1, .int p1), (2, .int p2), (3, .int p3), (4, .int p4), (5, .int p5)]) hx hb d_N_change_66 hl (by decide) rfl (fun ls hl => ?_)
            refine lv_iload hx hb d_N_change_68 (lv_at hl 0 rfl) ?_
            refine lv_if_le (tgt := 80) hx hb d_N_change_70 (by decide) (fun c15 => ?_) (fun c15 => ?_)
            · have hf := rd_t hf c15
              refine lv_aload_n hx hb d_N_change_80 rfl (lv_at hl 1 rfl) ?_
              refine lv_iload_n hx hb d_N_change_81 rfl (lv_at hl 3 rfl) ?_
              refine lv_iload_n hx hb d_N_change_82 rfl (lv_at hl 4 rfl) ?_
              refine lv_iload hx hb d_N_change_83 (lv_at hl 5 rfl) ?_
              obtain ⟨r16, qr16, hf⟩ := rd_bind hf
              refine rd_callV (As := [.int p2, .int p3, .int p4]) (rest := []) rd_gd C9 hTh hW (c_N_placeOf hls p2 p3 p4 qr16) kc_N_placeOf ki_N_placeOf ks_N_placeOf l_N_105 rfl (lt_N) (ce_N) rfl ⟨Nat.le_of_ble_eq_true rfl, Nat.le_of_ble_eq_true rfl⟩ ⟨Nat.le_of_ble_eq_true rfl, Nat.le_of_ble_eq_true rfl⟩ hl.1 rfl (Nat.le_of_ble_eq_true rfl) d_N_change_85 (fun E _ _ _ _ hex => hex.elim) (fun rr MM H locs hp hW => ?_)
              obtain ⟨rfl, rfl⟩ := hp
              refine lv_istore (lv' := [(7, .int r16), (6, .int r14), (0, .ref (ad 0)), (1, .int p1), (2, .int p2), (3, .int p3), (4, .int p4), (5, .int p5)]) hx hb d_N_change_88 hl (by decide) rfl (fun ls hl => ?_)
              refine lv_aload_n hx hb d_N_change_90 rfl (lv_at hl 2 rfl) ?_
              refine gf_N_uses C9 hW l_N_67 d_N_change_91 ?_
              refine lv_iconst (v := 2) hx hb d_N_change_94 (by decide) ?_
              refine lv_iload_n hx hb d_N_change_95 rfl (lv_at hl 4 rfl) ?_
              refine lv_imul hx hb d_N_change_96 ?_
              refine lv_iload_n hx hb d_N_change_97 rfl (lv_at hl 5 rfl) ?_
              refine lv_iadd hx hb d_N_change_98 ?_
              obtain ⟨g17, hf⟩ := rd_g hf
              refine al_m_uses C9 hW rfl g17 d_N_change_99 ?_
              refine lv_istore (lv' := [(8, .int ((M 19).1 (((2 * p2) + p3).toNatClampNeg))), (7, .int r16), (6, .int r14), (0, .ref (ad 0)), (1, .int p1), (2, .int p2), (3, .int p3), (4, .int p4), (5, .int p5)]) hx hb d_N_change_100 hl (by decide) rfl (fun ls hl => ?_)
              refine lv_iload hx hb d_N_change_102 (lv_at hl 8 rfl) ?_
              refine lv_if_eq (tgt := 121) hx hb d_N_change_104 (by decide) (fun c18 => ?_) (fun c18 => ?_)
              · have hf := rd_t hf c18
                refine lv_iload hx hb d_N_change_121 (lv_at hl 1 rfl) ?_
                refine lv_if_lt (tgt := 136) hx hb d_N_change_123 (by decide) (fun c19 => ?_) (fun c19 => ?_)
                · have hf := rd_t hf c19
                  refine lv_aload_n hx hb d_N_change_136 rfl (lv_at hl 3 rfl) ?_
                  refine lv_iconst (v := 4) hx hb d_N_change_137 (by decide) ?_
                  obtain ⟨r20, qr20, hf⟩ := rd_bind hf
                  refine rd_callV (As := [.int 4]) (rest := []) rd_gd C9 hTh hW (c_N_fail hls 4 qr20) kc_N_fail ki_N_fail ks_N_fail l_N_122 rfl (lt_N) (ce_N) rfl ⟨Nat.le_of_ble_eq_true rfl, Nat.le_of_ble_eq_true rfl⟩ ⟨Nat.le_of_ble_eq_true rfl, Nat.le_of_ble_eq_true rfl⟩ hl.1 rfl (Nat.le_of_ble_eq_true rfl) d_N_change_138 (fun E _ _ _ _ hex => hex.elim) (fun rr MM H locs hp hW => ?_)
                  obtain ⟨rfl, rfl⟩ := hp
                  obtain rfl := Option.some.inj hf
                  exact rd_iret C9 hlk hret hW ⟨rfl, rfl⟩ (by decide) (by decide) d_N_change_141
                · have hf := rd_f hf c19
                  refine lv_iload_n hx hb d_N_change_126 rfl (lv_at hl 6 rfl) ?_
                  refine lv_if_ne (tgt := 142) hx hb d_N_change_127 (by decide) (fun c21 => ?_) (fun c21 => ?_)
                  · have hf := rd_f hf c21
                    refine lv_iload hx hb d_N_change_142 (lv_at hl 8 rfl) ?_
                    refine lv_if_eq (tgt := 182) hx hb d_N_change_144 (by decide) (fun c22 => ?_) (fun c22 => ?_)
                    · have hf := rd_t hf c22
                      refine lv_aload_n hx hb d_N_change_182 rfl (lv_at hl 3 rfl) ?_
                      refine lv_iload_n hx hb d_N_change_183 rfl (lv_at hl 5 rfl) ?_
                      refine lv_iload_n hx hb d_N_change_184 rfl (lv_at hl 6 rfl) ?_
                      refine lv_iload hx hb d_N_change_185 (lv_at hl 1 rfl) ?_
                      obtain ⟨r23, qr23, hf⟩ := rd_bind hf
                      refine rd_callV (As := [.int p2, .int p3, .int r16]) (rest := []) rd_gd C9 hTh hW (c_N_takeOff hls p2 p3 r16 qr23) kc_N_takeOff ki_N_takeOff ks_N_takeOff l_N_109 rfl (lt_N) (ce_N) rfl ⟨Nat.le_of_ble_eq_true rfl, Nat.le_of_ble_eq_true rfl⟩ ⟨Nat.le_of_ble_eq_true rfl, Nat.le_of_ble_eq_true rfl⟩ hl.1 rfl (Nat.le_of_ble_eq_true rfl) d_N_change_187 (fun E _ _ _ _ hex => hex.elim) (fun rr MM H locs hp hW => ?_)
                      obtain ⟨rfl, rfl⟩ := hp
                      refine lv_aload_n hx hb d_N_change_190 rfl (lv_at hl 3 rfl) ?_
                      refine lv_aload_n hx hb d_N_change_191 rfl (lv_at hl 3 rfl) ?_
                      refine gf_N_uses C9 hW l_N_67 d_N_change_192 ?_
                      refine lv_iconst (v := 2) hx hb d_N_change_195 (by decide) ?_
                      refine lv_iload_n hx hb d_N_change_196 rfl (lv_at hl 5 rfl) ?_
                      refine lv_imul hx hb d_N_change_197 ?_
                      refine lv_iload_n hx hb d_N_change_198 rfl (lv_at hl 6 rfl) ?_
                      refine lv_iadd hx hb d_N_change_199 ?_
                      obtain ⟨g24, hf⟩ := rd_g hf
                      refine al_m_uses C9 hW rfl g24 d_N_change_200 ?_
                      obtain ⟨r25, qr25, hf⟩ := rd_bind hf
                      refine rd_callV (As := [.int ((r23 19).1 (((2 * p2) + p3).toNatClampNeg))]) (rest := []) rd_gd C9 hTh hW (c_N_give hls ((r23 19).1 (((2 * p2) + p3).toNatClampNeg)) qr25) kc_N_give ki_N_give ks_N_give l_N_126 rfl (lt_N) (ce_N) rfl ⟨Nat.le_of_ble_eq_true rfl, Nat.le_of_ble_eq_true rfl⟩ ⟨Nat.le_of_ble_eq_true rfl, Nat.le_of_ble_eq_true rfl⟩ hl.1 rfl (Nat.le_of_ble_eq_true rfl) d_N_change_201 (fun E _ _ _ _ hex => hex.elim) (fun rr MM H locs hp hW => ?_)
                      obtain ⟨rfl, rfl⟩ := hp
                      obtain rfl := Option.some.inj hf
                      exact rd_iret C9 hlk hret hW ⟨rfl, rfl⟩ (by decide) (by decide) d_N_change_204
                    · have hf := rd_f hf c22
                      refine lv_aload_n hx hb d_N_change_147 rfl (lv_at hl 3 rfl) ?_
                      refine gf_N_used C9 hW l_N_64 d_N_change_148 ?_
                      refine lv_bipush (v := 6) hx hb d_N_change_151 (by decide) ?_
                      refine lv_iload_n hx hb d_N_change_153 rfl (lv_at hl 5 rfl) ?_
                      refine lv_imul hx hb d_N_change_154 ?_
                      refine lv_iconst (v := 3) hx hb d_N_change_155 (by decide) ?_
                      refine lv_iload_n hx hb d_N_change_156 rfl (lv_at hl 6 rfl) ?_
                      refine lv_imul hx hb d_N_change_157 ?_
                      refine lv_iadd hx hb d_N_change_158 ?_
                      refine lv_iload hx hb d_N_change_159 (lv_at hl 0 rfl) ?_
                      refine lv_iadd hx hb d_N_change_161 ?_
                      refine lv_iload hx hb d_N_change_162 (lv_at hl 7 rfl) ?_
                      obtain ⟨g26, hf⟩ := rd_g hf
                      refine as_m_used C9 hW rfl g26 d_N_change_164 (fun H locs hW => ?_)
                      obtain ⟨M27, hM27, hf⟩ := rd_k_el hf
                      rw [← hM27] at hW
                      refine lv_aload_n hx hb d_N_change_165 rfl (lv_at hl 3 rfl) ?_
                      refine gf_N_uses C9 hW l_N_67 d_N_change_166 ?_
                      refine lv_iconst (v := 2) hx hb d_N_change_169 (by decide) ?_
                      refine lv_iload_n hx hb d_N_change_170 rfl (lv_at hl 5 rfl) ?_
                      refine lv_imul hx hb d_N_change_171 ?_
                      refine lv_iload_n hx hb d_N_change_172 rfl (lv_at hl 6 rfl) ?_
                      refine lv_iadd hx hb d_N_change_173 ?_
                      refine lv_dup2_11 hx hb d_N_change_174 rfl rfl ?_
                      obtain ⟨g28, hf⟩ := rd_g hf
                      refine al_m_uses C9 hW rfl g28 d_N_change_175 ?_
                      refine lv_iconst (v := 1) hx hb d_N_change_176 (by decide) ?_
                      refine lv_iadd hx hb d_N_change_177 ?_
                      obtain ⟨g29, hf⟩ := rd_g hf
                      refine as_m_uses C9 hW rfl g29 d_N_change_178 (fun H locs hW => ?_)
                      obtain ⟨M30, hM30, hf⟩ := rd_k_el hf
                      rw [← hM30] at hW
                      refine lv_goto (tgt := 190) hx hb d_N_change_179 (by decide) ?_
                      refine lv_aload_n hx hb d_N_change_190 rfl (lv_at hl 3 rfl) ?_
                      refine lv_aload_n hx hb d_N_change_191 rfl (lv_at hl 3 rfl) ?_
                      refine gf_N_uses C9 hW l_N_67 d_N_change_192 ?_
                      refine lv_iconst (v := 2) hx hb d_N_change_195 (by decide) ?_
                      refine lv_iload_n hx hb d_N_change_196 rfl (lv_at hl 5 rfl) ?_
                      refine lv_imul hx hb d_N_change_197 ?_
                      refine lv_iload_n hx hb d_N_change_198 rfl (lv_at hl 6 rfl) ?_
                      refine lv_iadd hx hb d_N_change_199 ?_
                      obtain ⟨g31, hf⟩ := rd_g hf
                      refine al_m_uses C9 hW rfl g31 d_N_change_200 ?_
                      obtain ⟨r32, qr32, hf⟩ := rd_bind hf
                      refine rd_callV (As := [.int ((M30 19).1 (((2 * p2) + p3).toNatClampNeg))]) (rest := []) rd_gd C9 hTh hW (c_N_give hls ((M30 19).1 (((2 * p2) + p3).toNatClampNeg)) qr32) kc_N_give ki_N_give ks_N_give l_N_126 rfl (lt_N) (ce_N) rfl ⟨Nat.le_of_ble_eq_true rfl, Nat.le_of_ble_eq_true rfl⟩ ⟨Nat.le_of_ble_eq_true rfl, Nat.le_of_ble_eq_true rfl⟩ hl.1 rfl (Nat.le_of_ble_eq_true rfl) d_N_change_201 (fun E _ _ _ _ hex => hex.elim) (fun rr MM H locs hp hW => ?_)
                      obtain ⟨rfl, rfl⟩ := hp
                      obtain rfl := Option.some.inj hf
                      exact rd_iret C9 hlk hret hW ⟨rfl, rfl⟩ (by decide) (by decide) d_N_change_204
                  · have hf := rd_t hf c21
                    refine lv_iload hx hb d_N_change_130 (lv_at hl 0 rfl) ?_
                    refine lv_iconst (v := 1) hx hb d_N_change_132 (by decide) ?_
                    refine lv_icmp_ne (tgt := 142) hx hb d_N_change_133 (by decide) (fun c33 => ?_) (fun c33 => ?_)
                    · have hf := rd_f hf c33
                      refine lv_iload hx hb d_N_change_142 (lv_at hl 8 rfl) ?_
                      refine lv_if_eq (tgt := 182) hx hb d_N_change_144 (by decide) (fun c34 => ?_) (fun c34 => ?_)
                      · have hf := rd_t hf c34
                        refine lv_aload_n hx hb d_N_change_182 rfl (lv_at hl 3 rfl) ?_
                        refine lv_iload_n hx hb d_N_change_183 rfl (lv_at hl 5 rfl) ?_
                        refine lv_iload_n hx hb d_N_change_184 rfl (lv_at hl 6 rfl) ?_
                        refine lv_iload hx hb d_N_change_185 (lv_at hl 1 rfl) ?_
                        obtain ⟨r35, qr35, hf⟩ := rd_bind hf
                        refine rd_callV (As := [.int p2, .int p3, .int r16]) (rest := []) rd_gd C9 hTh hW (c_N_takeOff hls p2 p3 r16 qr35) kc_N_takeOff ki_N_takeOff ks_N_takeOff l_N_109 rfl (lt_N) (ce_N) rfl ⟨Nat.le_of_ble_eq_true rfl, Nat.le_of_ble_eq_true rfl⟩ ⟨Nat.le_of_ble_eq_true rfl, Nat.le_of_ble_eq_true rfl⟩ hl.1 rfl (Nat.le_of_ble_eq_true rfl) d_N_change_187 (fun E _ _ _ _ hex => hex.elim) (fun rr MM H locs hp hW => ?_)
                        obtain ⟨rfl, rfl⟩ := hp
                        refine lv_aload_n hx hb d_N_change_190 rfl (lv_at hl 3 rfl) ?_
                        refine lv_aload_n hx hb d_N_change_191 rfl (lv_at hl 3 rfl) ?_
                        refine gf_N_uses C9 hW l_N_67 d_N_change_192 ?_
                        refine lv_iconst (v := 2) hx hb d_N_change_195 (by decide) ?_
                        refine lv_iload_n hx hb d_N_change_196 rfl (lv_at hl 5 rfl) ?_
                        refine lv_imul hx hb d_N_change_197 ?_
                        refine lv_iload_n hx hb d_N_change_198 rfl (lv_at hl 6 rfl) ?_
                        refine lv_iadd hx hb d_N_change_199 ?_
                        obtain ⟨g36, hf⟩ := rd_g hf
                        refine al_m_uses C9 hW rfl g36 d_N_change_200 ?_
                        obtain ⟨r37, qr37, hf⟩ := rd_bind hf
                        refine rd_callV (As := [.int ((r35 19).1 (((2 * p2) + p3).toNatClampNeg))]) (rest := []) rd_gd C9 hTh hW (c_N_give hls ((r35 19).1 (((2 * p2) + p3).toNatClampNeg)) qr37) kc_N_give ki_N_give ks_N_give l_N_126 rfl (lt_N) (ce_N) rfl ⟨Nat.le_of_ble_eq_true rfl, Nat.le_of_ble_eq_true rfl⟩ ⟨Nat.le_of_ble_eq_true rfl, Nat.le_of_ble_eq_true rfl⟩ hl.1 rfl (Nat.le_of_ble_eq_true rfl) d_N_change_201 (fun E _ _ _ _ hex => hex.elim) (fun rr MM H locs hp hW => ?_)
                        obtain ⟨rfl, rfl⟩ := hp
                        obtain rfl := Option.some.inj hf
                        exact rd_iret C9 hlk hret hW ⟨rfl, rfl⟩ (by decide) (by decide) d_N_change_204
                      · have hf := rd_f hf c34
                        refine lv_aload_n hx hb d_N_change_147 rfl (lv_at hl 3 rfl) ?_
                        refine gf_N_used C9 hW l_N_64 d_N_change_148 ?_
                        refine lv_bipush (v := 6) hx hb d_N_change_151 (by decide) ?_
                        refine lv_iload_n hx hb d_N_change_153 rfl (lv_at hl 5 rfl) ?_
                        refine lv_imul hx hb d_N_change_154 ?_
                        refine lv_iconst (v := 3) hx hb d_N_change_155 (by decide) ?_
                        refine lv_iload_n hx hb d_N_change_156 rfl (lv_at hl 6 rfl) ?_
                        refine lv_imul hx hb d_N_change_157 ?_
                        refine lv_iadd hx hb d_N_change_158 ?_
                        refine lv_iload hx hb d_N_change_159 (lv_at hl 0 rfl) ?_
                        refine lv_iadd hx hb d_N_change_161 ?_
                        refine lv_iload hx hb d_N_change_162 (lv_at hl 7 rfl) ?_
                        obtain ⟨g38, hf⟩ := rd_g hf
                        refine as_m_used C9 hW rfl g38 d_N_change_164 (fun H locs hW => ?_)
                        obtain ⟨M39, hM39, hf⟩ := rd_k_el hf
                        rw [← hM39] at hW
                        refine lv_aload_n hx hb d_N_change_165 rfl (lv_at hl 3 rfl) ?_
                        refine gf_N_uses C9 hW l_N_67 d_N_change_166 ?_
                        refine lv_iconst (v := 2) hx hb d_N_change_169 (by decide) ?_
                        refine lv_iload_n hx hb d_N_change_170 rfl (lv_at hl 5 rfl) ?_
                        refine lv_imul hx hb d_N_change_171 ?_
                        refine lv_iload_n hx hb d_N_change_172 rfl (lv_at hl 6 rfl) ?_
                        refine lv_iadd hx hb d_N_change_173 ?_
                        refine lv_dup2_11 hx hb d_N_change_174 rfl rfl ?_
                        obtain ⟨g40, hf⟩ := rd_g hf
                        refine al_m_uses C9 hW rfl g40 d_N_change_175 ?_
                        refine lv_iconst (v := 1) hx hb d_N_change_176 (by decide) ?_
                        refine lv_iadd hx hb d_N_change_177 ?_
                        obtain ⟨g41, hf⟩ := rd_g hf
                        refine as_m_uses C9 hW rfl g41 d_N_change_178 (fun H locs hW => ?_)
                        obtain ⟨M42, hM42, hf⟩ := rd_k_el hf
                        rw [← hM42] at hW
                        refine lv_goto (tgt := 190) hx hb d_N_change_179 (by decide) ?_
                        refine lv_aload_n hx hb d_N_change_190 rfl (lv_at hl 3 rfl) ?_
                        refine lv_aload_n hx hb d_N_change_191 rfl (lv_at hl 3 rfl) ?_
                        refine gf_N_uses C9 hW l_N_67 d_N_change_192 ?_
                        refine lv_iconst (v := 2) hx hb d_N_change_195 (by decide) ?_
                        refine lv_iload_n hx hb d_N_change_196 rfl (lv_at hl 5 rfl) ?_
                        refine lv_imul hx hb d_N_change_197 ?_
                        refine lv_iload_n hx hb d_N_change_198 rfl (lv_at hl 6 rfl) ?_
                        refine lv_iadd hx hb d_N_change_199 ?_
                        obtain ⟨g43, hf⟩ := rd_g hf
                        refine al_m_uses C9 hW rfl g43 d_N_change_200 ?_
                        obtain ⟨r44, qr44, hf⟩ := rd_bind hf
                        refine rd_callV (As := [.int ((M42 19).1 (((2 * p2) + p3).toNatClampNeg))]) (rest := []) rd_gd C9 hTh hW (c_N_give hls ((M42 19).1 (((2 * p2) + p3).toNatClampNeg)) qr44) kc_N_give ki_N_give ks_N_give l_N_126 rfl (lt_N) (ce_N) rfl ⟨Nat.le_of_ble_eq_true rfl, Nat.le_of_ble_eq_true rfl⟩ ⟨Nat.le_of_ble_eq_true rfl, Nat.le_of_ble_eq_true rfl⟩ hl.1 rfl (Nat.le_of_ble_eq_true rfl) d_N_change_201 (fun E _ _ _ _ hex => hex.elim) (fun rr MM H locs hp hW => ?_)
                        obtain ⟨rfl, rfl⟩ := hp
                        obtain rfl := Option.some.inj hf
                        exact rd_iret C9 hlk hret hW ⟨rfl, rfl⟩ (by decide) (by decide) d_N_change_204
                    · have hf := rd_t hf c33
                      refine lv_aload_n hx hb d_N_change_136 rfl (lv_at hl 3 rfl) ?_
                      refine lv_iconst (v := 4) hx hb d_N_change_137 (by decide) ?_
                      obtain ⟨r45, qr45, hf⟩ := rd_bind hf
                      refine rd_callV (As := [.int 4]) (rest := []) rd_gd C9 hTh hW (c_N_fail hls 4 qr45) kc_N_fail ki_N_fail ks_N_fail l_N_122 rfl (lt_N) (ce_N) rfl ⟨Nat.le_of_ble_eq_true rfl, Nat.le_of_ble_eq_true rfl⟩ ⟨Nat.le_of_ble_eq_true rfl, Nat.le_of_ble_eq_true rfl⟩ hl.1 rfl (Nat.le_of_ble_eq_true rfl) d_N_change_138 (fun E _ _ _ _ hex => hex.elim) (fun rr MM H locs hp hW => ?_)
                      obtain ⟨rfl, rfl⟩ := hp
                      obtain rfl := Option.some.inj hf
                      exact rd_iret C9 hlk hret hW ⟨rfl, rfl⟩ (by decide) (by decide) d_N_change_141
              · have hf := rd_f hf c18
                refine lv_iload hx hb d_N_change_107 (lv_at hl 1 rfl) ?_
                refine lv_if_ge (tgt := 136) hx hb d_N_change_109 (by decide) (fun c46 => ?_) (fun c46 => ?_)
                · have hf := rd_t hf c46
                  refine lv_aload_n hx hb d_N_change_136 rfl (lv_at hl 3 rfl) ?_
                  refine lv_iconst (v := 4) hx hb d_N_change_137 (by decide) ?_
                  obtain ⟨r47, qr47, hf⟩ := rd_bind hf
                  refine rd_callV (As := [.int 4]) (rest := []) rd_gd C9 hTh hW (c_N_fail hls 4 qr47) kc_N_fail ki_N_fail ks_N_fail l_N_122 rfl (lt_N) (ce_N) rfl ⟨Nat.le_of_ble_eq_true rfl, Nat.le_of_ble_eq_true rfl⟩ ⟨Nat.le_of_ble_eq_true rfl, Nat.le_of_ble_eq_true rfl⟩ hl.1 rfl (Nat.le_of_ble_eq_true rfl) d_N_change_138 (fun E _ _ _ _ hex => hex.elim) (fun rr MM H locs hp hW => ?_)
                  obtain ⟨rfl, rfl⟩ := hp
                  obtain rfl := Option.some.inj hf
                  exact rd_iret C9 hlk hret hW ⟨rfl, rfl⟩ (by decide) (by decide) d_N_change_141
                · have hf := rd_f hf c46
                  refine lv_iload hx hb d_N_change_112 (lv_at hl 0 rfl) ?_
                  refine lv_iconst (v := 3) hx hb d_N_change_114 (by decide) ?_
                  refine lv_icmp_ne (tgt := 142) hx hb d_N_change_115 (by decide) (fun c48 => ?_) (fun c48 => ?_)
                  · have hf := rd_f hf c48
                    refine lv_iload hx hb d_N_change_142 (lv_at hl 8 rfl) ?_
                    refine lv_if_eq (tgt := 182) hx hb d_N_change_144 (by decide) (fun c49 => ?_) (fun c49 => ?_)
                    · have hf := rd_t hf c49
                      refine lv_aload_n hx hb d_N_change_182 rfl (lv_at hl 3 rfl) ?_
                      refine lv_iload_n hx hb d_N_change_183 rfl (lv_at hl 5 rfl) ?_
                      refine lv_iload_n hx hb d_N_change_184 rfl (lv_at hl 6 rfl) ?_
                      refine lv_iload hx hb d_N_change_185 (lv_at hl 1 rfl) ?_
                      obtain ⟨r50, qr50, hf⟩ := rd_bind hf
                      refine rd_callV (As := [.int p2, .int p3, .int r16]) (rest := []) rd_gd C9 hTh hW (c_N_takeOff hls p2 p3 r16 qr50) kc_N_takeOff ki_N_takeOff ks_N_takeOff l_N_109 rfl (lt_N) (ce_N) rfl ⟨Nat.le_of_ble_eq_true rfl, Nat.le_of_ble_eq_true rfl⟩ ⟨Nat.le_of_ble_eq_true rfl, Nat.le_of_ble_eq_true rfl⟩ hl.1 rfl (Nat.le_of_ble_eq_true rfl) d_N_change_187 (fun E _ _ _ _ hex => hex.elim) (fun rr MM H locs hp hW => ?_)
                      obtain ⟨rfl, rfl⟩ := hp
                      refine lv_aload_n hx hb d_N_change_190 rfl (lv_at hl 3 rfl) ?_
                      refine lv_aload_n hx hb d_N_change_191 rfl (lv_at hl 3 rfl) ?_
                      refine gf_N_uses C9 hW l_N_67 d_N_change_192 ?_
                      refine lv_iconst (v := 2) hx hb d_N_change_195 (by decide) ?_
                      refine lv_iload_n hx hb d_N_change_196 rfl (lv_at hl 5 rfl) ?_
                      refine lv_imul hx hb d_N_change_197 ?_
                      refine lv_iload_n hx hb d_N_change_198 rfl (lv_at hl 6 rfl) ?_
                      refine lv_iadd hx hb d_N_change_199 ?_
                      obtain ⟨g51, hf⟩ := rd_g hf
                      refine al_m_uses C9 hW rfl g51 d_N_change_200 ?_
                      obtain ⟨r52, qr52, hf⟩ := rd_bind hf
                      refine rd_callV (As := [.int ((r50 19).1 (((2 * p2) + p3).toNatClampNeg))]) (rest := []) rd_gd C9 hTh hW (c_N_give hls ((r50 19).1 (((2 * p2) + p3).toNatClampNeg)) qr52) kc_N_give ki_N_give ks_N_give l_N_126 rfl (lt_N) (ce_N) rfl ⟨Nat.le_of_ble_eq_true rfl, Nat.le_of_ble_eq_true rfl⟩ ⟨Nat.le_of_ble_eq_true rfl, Nat.le_of_ble_eq_true rfl⟩ hl.1 rfl (Nat.le_of_ble_eq_true rfl) d_N_change_201 (fun E _ _ _ _ hex => hex.elim) (fun rr MM H locs hp hW => ?_)
                      obtain ⟨rfl, rfl⟩ := hp
                      obtain rfl := Option.some.inj hf
                      exact rd_iret C9 hlk hret hW ⟨rfl, rfl⟩ (by decide) (by decide) d_N_change_204
                    · have hf := rd_f hf c49
                      refine lv_aload_n hx hb d_N_change_147 rfl (lv_at hl 3 rfl) ?_
                      refine gf_N_used C9 hW l_N_64 d_N_change_148 ?_
                      refine lv_bipush (v := 6) hx hb d_N_change_151 (by decide) ?_
                      refine lv_iload_n hx hb d_N_change_153 rfl (lv_at hl 5 rfl) ?_
                      refine lv_imul hx hb d_N_change_154 ?_
                      refine lv_iconst (v := 3) hx hb d_N_change_155 (by decide) ?_
                      refine lv_iload_n hx hb d_N_change_156 rfl (lv_at hl 6 rfl) ?_
                      refine lv_imul hx hb d_N_change_157 ?_
                      refine lv_iadd hx hb d_N_change_158 ?_
                      refine lv_iload hx hb d_N_change_159 (lv_at hl 0 rfl) ?_
                      refine lv_iadd hx hb d_N_change_161 ?_
                      refine lv_iload hx hb d_N_change_162 (lv_at hl 7 rfl) ?_
                      obtain ⟨g53, hf⟩ := rd_g hf
                      refine as_m_used C9 hW rfl g53 d_N_change_164 (fun H locs hW => ?_)
                      obtain ⟨M54, hM54, hf⟩ := rd_k_el hf
                      rw [← hM54] at hW
                      refine lv_aload_n hx hb d_N_change_165 rfl (lv_at hl 3 rfl) ?_
                      refine gf_N_uses C9 hW l_N_67 d_N_change_166 ?_
                      refine lv_iconst (v := 2) hx hb d_N_change_169 (by decide) ?_
                      refine lv_iload_n hx hb d_N_change_170 rfl (lv_at hl 5 rfl) ?_
                      refine lv_imul hx hb d_N_change_171 ?_
                      refine lv_iload_n hx hb d_N_change_172 rfl (lv_at hl 6 rfl) ?_
                      refine lv_iadd hx hb d_N_change_173 ?_
                      refine lv_dup2_11 hx hb d_N_change_174 rfl rfl ?_
                      obtain ⟨g55, hf⟩ := rd_g hf
                      refine al_m_uses C9 hW rfl g55 d_N_change_175 ?_
                      refine lv_iconst (v := 1) hx hb d_N_change_176 (by decide) ?_
                      refine lv_iadd hx hb d_N_change_177 ?_
                      obtain ⟨g56, hf⟩ := rd_g hf
                      refine as_m_uses C9 hW rfl g56 d_N_change_178 (fun H locs hW => ?_)
                      obtain ⟨M57, hM57, hf⟩ := rd_k_el hf
                      rw [← hM57] at hW
                      refine lv_goto (tgt := 190) hx hb d_N_change_179 (by decide) ?_
                      refine lv_aload_n hx hb d_N_change_190 rfl (lv_at hl 3 rfl) ?_
                      refine lv_aload_n hx hb d_N_change_191 rfl (lv_at hl 3 rfl) ?_
                      refine gf_N_uses C9 hW l_N_67 d_N_change_192 ?_
                      refine lv_iconst (v := 2) hx hb d_N_change_195 (by decide) ?_
                      refine lv_iload_n hx hb d_N_change_196 rfl (lv_at hl 5 rfl) ?_
                      refine lv_imul hx hb d_N_change_197 ?_
                      refine lv_iload_n hx hb d_N_change_198 rfl (lv_at hl 6 rfl) ?_
                      refine lv_iadd hx hb d_N_change_199 ?_
                      obtain ⟨g58, hf⟩ := rd_g hf
                      refine al_m_uses C9 hW rfl g58 d_N_change_200 ?_
                      obtain ⟨r59, qr59, hf⟩ := rd_bind hf
                      refine rd_callV (As := [.int ((M57 19).1 (((2 * p2) + p3).toNatClampNeg))]) (rest := []) rd_gd C9 hTh hW (c_N_give hls ((M57 19).1 (((2 * p2) + p3).toNatClampNeg)) qr59) kc_N_give ki_N_give ks_N_give l_N_126 rfl (lt_N) (ce_N) rfl ⟨Nat.le_of_ble_eq_true rfl, Nat.le_of_ble_eq_true rfl⟩ ⟨Nat.le_of_ble_eq_true rfl, Nat.le_of_ble_eq_true rfl⟩ hl.1 rfl (Nat.le_of_ble_eq_true rfl) d_N_change_201 (fun E _ _ _ _ hex => hex.elim) (fun rr MM H locs hp hW => ?_)
                      obtain ⟨rfl, rfl⟩ := hp
                      obtain rfl := Option.some.inj hf
                      exact rd_iret C9 hlk hret hW ⟨rfl, rfl⟩ (by decide) (by decide) d_N_change_204
                  · have hf := rd_t hf c48
                    refine lv_goto (tgt := 136) hx hb d_N_change_118 (by decide) ?_
                    refine lv_aload_n hx hb d_N_change_136 rfl (lv_at hl 3 rfl) ?_
                    refine lv_iconst (v := 4) hx hb d_N_change_137 (by decide) ?_
                    obtain ⟨r60, qr60, hf⟩ := rd_bind hf
                    refine rd_callV (As := [.int 4]) (rest := []) rd_gd C9 hTh hW (c_N_fail hls 4 qr60) kc_N_fail ki_N_fail ks_N_fail l_N_122 rfl (lt_N) (ce_N) rfl ⟨Nat.le_of_ble_eq_true rfl, Nat.le_of_ble_eq_true rfl⟩ ⟨Nat.le_of_ble_eq_true rfl, Nat.le_of_ble_eq_true rfl⟩ hl.1 rfl (Nat.le_of_ble_eq_true rfl) d_N_change_138 (fun E _ _ _ _ hex => hex.elim) (fun rr MM H locs hp hW => ?_)
                    obtain ⟨rfl, rfl⟩ := hp
                    obtain rfl := Option.some.inj hf
                    exact rd_iret C9 hlk hret hW ⟨rfl, rfl⟩ (by decide) (by decide) d_N_change_141
            · have hf := rd_f hf c15
              refine lv_aload_n hx hb d_N_change_73 rfl (lv_at hl 1 rfl) ?_
              refine lv_iload hx hb d_N_change_74 (lv_at hl 0 rfl) ?_
              obtain ⟨r61, qr61, hf⟩ := rd_bind hf
              refine rd_callV (As := [.int r14]) (rest := []) rd_gd C9 hTh hW (c_N_fail hls r14 qr61) kc_N_fail ki_N_fail ks_N_fail l_N_122 rfl (lt_N) (ce_N) rfl ⟨Nat.le_of_ble_eq_true rfl, Nat.le_of_ble_eq_true rfl⟩ ⟨Nat.le_of_ble_eq_true rfl, Nat.le_of_ble_eq_true rfl⟩ hl.1 rfl (Nat.le_of_ble_eq_true rfl) d_N_change_76 (fun E _ _ _ _ hex => hex.elim) (fun rr MM H locs hp hW => ?_)
              obtain ⟨rfl, rfl⟩ := hp
              obtain rfl := Option.some.inj hf
              exact rd_iret C9 hlk hret hW ⟨rfl, rfl⟩ (by decide) (by decide) d_N_change_79
          · have hf := rd_f hf c13
            refine lv_aload_n hx hb d_N_change_52 rfl (lv_at hl 0 rfl) ?_
            refine lv_iconst (v := 2) hx hb d_N_change_53 (by decide) ?_
            obtain ⟨r62, qr62, hf⟩ := rd_bind hf
            refine rd_callV (As := [.int 2]) (rest := []) rd_gd C9 hTh hW (c_N_fail hls 2 qr62) kc_N_fail ki_N_fail ks_N_fail l_N_122 rfl (lt_N) (ce_N) rfl ⟨Nat.le_of_ble_eq_true rfl, Nat.le_of_ble_eq_true rfl⟩ ⟨Nat.le_of_ble_eq_true rfl, Nat.le_of_ble_eq_true rfl⟩ hl.1 rfl (Nat.le_of_ble_eq_true rfl) d_N_change_54 (fun E _ _ _ _ hex => hex.elim) (fun rr MM H locs hp hW => ?_)
            obtain ⟨rfl, rfl⟩ := hp
            obtain rfl := Option.some.inj hf
            exact rd_iret C9 hlk hret hW ⟨rfl, rfl⟩ (by decide) (by decide) d_N_change_57
      · have hf := rd_t hf c8
        refine lv_aload_n hx hb d_N_change_28 rfl (lv_at hl 0 rfl) ?_
        refine lv_iconst (v := 1) hx hb d_N_change_29 (by decide) ?_
        obtain ⟨r63, qr63, hf⟩ := rd_bind hf
        refine rd_callV (As := [.int 1]) (rest := []) rd_gd C9 hTh hW (c_N_fail hls 1 qr63) kc_N_fail ki_N_fail ks_N_fail l_N_122 rfl (lt_N) (ce_N) rfl ⟨Nat.le_of_ble_eq_true rfl, Nat.le_of_ble_eq_true rfl⟩ ⟨Nat.le_of_ble_eq_true rfl, Nat.le_of_ble_eq_true rfl⟩ hl.1 rfl (Nat.le_of_ble_eq_true rfl) d_N_change_30 (fun E _ _ _ _ hex => hex.elim) (fun rr MM H locs hp hW => ?_)
        obtain ⟨rfl, rfl⟩ := hp
        obtain rfl := Option.some.inj hf
        exact rd_iret C9 hlk hret hW ⟨rfl, rfl⟩ (by decide) (by decide) d_N_change_33
def f_N_lock (M : rd_M) (p1 : Int32) (p2 : Int32) (p3 : Int32) : Option (Int32 × rd_M) :=
  (f_N_in M p1 0 3).bind fun r1 =>
  if r1 = 0 then
    (f_N_fail M 1).bind fun r3 =>
    some (r3.1, r3.2)
  else
    (f_N_in M p2 0 9).bind fun r4 =>
    if r4 = 0 then
      (f_N_fail M 1).bind fun r6 =>
      some (r6.1, r6.2)
    else
      (f_N_in M p3 0 31).bind fun r7 =>
      if r7 = 0 then
        (f_N_fail M 1).bind fun r16 =>
        some (r16.1, r16.2)
      else
        (f_N_barred M p1 p2 0 0).bind fun r9 =>
        if r9 ≤ 0 then
          if rd_in p2 10 then
          if rd_in p2 10 then
          rd_k (rd_iU M 13 p2.toNatClampNeg p3) fun M13 =>
          (f_N_give M13 ((M 13).1 p2.toNatClampNeg)).bind fun r14 =>
          some (r14.1, r14.2)
          else none
          else none
        else
          (f_N_fail M r9).bind fun r15 =>
          some (r15.1, r15.2)
set_option maxRecDepth 100000 in
set_option maxHeartbeats 4000000 in
theorem c_N_lock {l : Launch} (hls : l.stackTraces = false) {D : va_G} {Ka : Nat → ClassId} {ad : Nat → Nat} {M : rd_M} (p1 : Int32) (p2 : Int32) (p3 : Int32)  {o : Int32 × rd_M} (hf : f_N_lock M p1 p2 p3 = some o) :
    rd_Met l y_N_lock b_N_lock 6 (some .int) (2, 45, 0, 0) rd_T rd_ss D rd_cl (rd_ty Ka) (rm_L Ka) ad M [.ref (ad 0), .int p1, .int p2, .int p3] (fun r M1 => r = some (.int o.1) ∧ o.2 = M1) (fun _ => False) := by
  refine rd_body (by decide) (Nat.le_of_ble_eq_true rfl) ?_
  intro p e s m below meth c C9 hlk hret hnt hTh hW ls hl
  have hx := C9.1.1
  have hb := C9.1.2.1
  have hl : lv_has ls 6 [(0, .ref (ad 0)), (1, .int p1), (2, .int p2), (3, .int p3)] := hl
  unfold f_N_lock at hf
  refine lv_iload_n hx hb d_N_lock_0 rfl (lv_at hl 1 rfl) ?_
  refine lv_iconst (v := 0) hx hb d_N_lock_1 (by decide) ?_
  refine lv_iconst (v := 3) hx hb d_N_lock_2 (by decide) ?_
  obtain ⟨r1, qr1, hf⟩ := rd_bind hf
  refine rd_callS (As := [.int p1, .int 0, .int 3]) (rest := []) rd_gd C9 hTh hW (c_N_in hls p1 0 3 qr1) kc_N_in ki_N_in l_N_116 rfl ⟨Nat.le_of_ble_eq_true rfl, Nat.le_of_ble_eq_true rfl⟩ ⟨Nat.le_of_ble_eq_true rfl, Nat.le_of_ble_eq_true rfl⟩ hl.1 rfl (Nat.le_of_ble_eq_true rfl) d_N_lock_3 (fun E _ _ _ _ hex => hex.elim) (fun rr MM H locs hp hW => ?_)
  obtain ⟨rfl, rfl⟩ := hp
  refine lv_if_eq (tgt := 29) hx hb d_N_lock_6 (by decide) (fun c2 => ?_) (fun c2 => ?_)
  · have hf := rd_t hf c2
    refine lv_aload_n hx hb d_N_lock_29 rfl (lv_at hl 0 rfl) ?_
    refine lv_iconst (v := 1) hx hb d_N_lock_30 (by decide) ?_
    obtain ⟨r3, qr3, hf⟩ := rd_bind hf
    refine rd_callV (As := [.int 1]) (rest := []) rd_gd C9 hTh hW (c_N_fail hls 1 qr3) kc_N_fail ki_N_fail ks_N_fail l_N_122 rfl (lt_N) (ce_N) rfl ⟨Nat.le_of_ble_eq_true rfl, Nat.le_of_ble_eq_true rfl⟩ ⟨Nat.le_of_ble_eq_true rfl, Nat.le_of_ble_eq_true rfl⟩ hl.1 rfl (Nat.le_of_ble_eq_true rfl) d_N_lock_31 (fun E _ _ _ _ hex => hex.elim) (fun rr MM H locs hp hW => ?_)
    obtain ⟨rfl, rfl⟩ := hp
    obtain rfl := Option.some.inj hf
    exact rd_iret C9 hlk hret hW ⟨rfl, rfl⟩ (by decide) (by decide) d_N_lock_34
  · have hf := rd_f hf c2
    refine lv_iload_n hx hb d_N_lock_9 rfl (lv_at hl 2 rfl) ?_
    refine lv_iconst (v := 0) hx hb d_N_lock_10 (by decide) ?_
    refine lv_bipush (v := 9) hx hb d_N_lock_11 (by decide) ?_
    obtain ⟨r4, qr4, hf⟩ := rd_bind hf
    refine rd_callS (As := [.int p2, .int 0, .int 9]) (rest := []) rd_gd C9 hTh hW (c_N_in hls p2 0 9 qr4) kc_N_in ki_N_in l_N_116 rfl ⟨Nat.le_of_ble_eq_true rfl, Nat.le_of_ble_eq_true rfl⟩ ⟨Nat.le_of_ble_eq_true rfl, Nat.le_of_ble_eq_true rfl⟩ hl.1 rfl (Nat.le_of_ble_eq_true rfl) d_N_lock_13 (fun E _ _ _ _ hex => hex.elim) (fun rr MM H locs hp hW => ?_)
    obtain ⟨rfl, rfl⟩ := hp
    refine lv_if_eq (tgt := 29) hx hb d_N_lock_16 (by decide) (fun c5 => ?_) (fun c5 => ?_)
    · have hf := rd_t hf c5
      refine lv_aload_n hx hb d_N_lock_29 rfl (lv_at hl 0 rfl) ?_
      refine lv_iconst (v := 1) hx hb d_N_lock_30 (by decide) ?_
      obtain ⟨r6, qr6, hf⟩ := rd_bind hf
      refine rd_callV (As := [.int 1]) (rest := []) rd_gd C9 hTh hW (c_N_fail hls 1 qr6) kc_N_fail ki_N_fail ks_N_fail l_N_122 rfl (lt_N) (ce_N) rfl ⟨Nat.le_of_ble_eq_true rfl, Nat.le_of_ble_eq_true rfl⟩ ⟨Nat.le_of_ble_eq_true rfl, Nat.le_of_ble_eq_true rfl⟩ hl.1 rfl (Nat.le_of_ble_eq_true rfl) d_N_lock_31 (fun E _ _ _ _ hex => hex.elim) (fun rr MM H locs hp hW => ?_)
      obtain ⟨rfl, rfl⟩ := hp
      obtain rfl := Option.some.inj hf
      exact rd_iret C9 hlk hret hW ⟨rfl, rfl⟩ (by decide) (by decide) d_N_lock_34
    · have hf := rd_f hf c5
      refine lv_iload_n hx hb d_N_lock_19 rfl (lv_at hl 3 rfl) ?_
      refine lv_iconst (v := 0) hx hb d_N_lock_20 (by decide) ?_
      refine lv_bipush (v := 31) hx hb d_N_lock_21 (by decide) ?_
      obtain ⟨r7, qr7, hf⟩ := rd_bind hf
      refine rd_callS (As := [.int p3, .int 0, .int 31]) (rest := []) rd_gd C9 hTh hW (c_N_in hls p3 0 31 qr7) kc_N_in ki_N_in l_N_116 rfl ⟨Nat.le_of_ble_eq_true rfl, Nat.le_of_ble_eq_true rfl⟩ ⟨Nat.le_of_ble_eq_true rfl, Nat.le_of_ble_eq_true rfl⟩ hl.1 rfl (Nat.le_of_ble_eq_true rfl) d_N_lock_23 (fun E _ _ _ _ hex => hex.elim) (fun rr MM H locs hp hW => ?_)
      obtain ⟨rfl, rfl⟩ := hp
      refine lv_if_ne (tgt := 35) hx hb d_N_lock_26 (by decide) (fun c8 => ?_) (fun c8 => ?_)
      · have hf := rd_f hf c8
        refine lv_aload_n hx hb d_N_lock_35 rfl (lv_at hl 0 rfl) ?_
        refine lv_iload_n hx hb d_N_lock_36 rfl (lv_at hl 1 rfl) ?_
        refine lv_iload_n hx hb d_N_lock_37 rfl (lv_at hl 2 rfl) ?_
        refine lv_iconst (v := 0) hx hb d_N_lock_38 (by decide) ?_
        refine lv_iconst (v := 0) hx hb d_N_lock_39 (by decide) ?_
        obtain ⟨r9, qr9, hf⟩ := rd_bind hf
        refine rd_callV (As := [.int p1, .int p2, .int 0, .int 0]) (rest := []) rd_gd C9 hTh hW (c_N_barred hls p1 p2 0 0 qr9) kc_N_barred ki_N_barred ks_N_barred l_N_158 rfl (lt_N) (ce_N) rfl ⟨Nat.le_of_ble_eq_true rfl, Nat.le_of_ble_eq_true rfl⟩ ⟨Nat.le_of_ble_eq_true rfl, Nat.le_of_ble_eq_true rfl⟩ hl.1 rfl (Nat.le_of_ble_eq_true rfl) d_N_lock_40 (fun E _ _ _ _ hex => hex.elim) (fun rr MM H locs hp hW => ?_)
        obtain ⟨rfl, rfl⟩ := hp
        refine lv_istore (lv' := [(4, .int r9), (0, .ref (ad 0)), (1, .int p1), (2, .int p2), (3, .int p3)]) hx hb d_N_lock_43 hl (by decide) rfl (fun ls hl => ?_)
        refine lv_iload hx hb d_N_lock_45 (lv_at hl 0 rfl) ?_
        refine lv_if_le (tgt := 57) hx hb d_N_lock_47 (by decide) (fun c10 => ?_) (fun c10 => ?_)
        · have hf := rd_t hf c10
          refine lv_aload_n hx hb d_N_lock_57 rfl (lv_at hl 1 rfl) ?_
          refine gf_N_locks C9 hW l_N_49 d_N_lock_58 ?_
          refine lv_iload_n hx hb d_N_lock_61 rfl (lv_at hl 3 rfl) ?_
          obtain ⟨g11, hf⟩ := rd_g hf
          refine al_m_locks C9 hW rfl g11 d_N_lock_62 ?_
          refine lv_istore (lv' := [(5, .int ((M 13).1 p2.toNatClampNeg)), (4, .int r9), (0, .ref (ad 0)), (1, .int p1), (2, .int p2), (3, .int p3)]) hx hb d_N_lock_63 hl (by decide) rfl (fun ls hl => ?_)
          refine lv_aload_n hx hb d_N_lock_65 rfl (lv_at hl 2 rfl) ?_
          refine gf_N_locks C9 hW l_N_49 d_N_lock_66 ?_
          refine lv_iload_n hx hb d_N_lock_69 rfl (lv_at hl 4 rfl) ?_
          refine lv_iload_n hx hb d_N_lock_70 rfl (lv_at hl 5 rfl) ?_
          obtain ⟨g12, hf⟩ := rd_g hf
          refine as_m_locks C9 hW rfl g12 d_N_lock_71 (fun H locs hW => ?_)
          obtain ⟨M13, hM13, hf⟩ := rd_k_el hf
          rw [← hM13] at hW
          refine lv_aload_n hx hb d_N_lock_72 rfl (lv_at hl 2 rfl) ?_
          refine lv_iload hx hb d_N_lock_73 (lv_at hl 0 rfl) ?_
          obtain ⟨r14, qr14, hf⟩ := rd_bind hf
          refine rd_callV (As := [.int ((M 13).1 p2.toNatClampNeg)]) (rest := []) rd_gd C9 hTh hW (c_N_give hls ((M 13).1 p2.toNatClampNeg) qr14) kc_N_give ki_N_give ks_N_give l_N_126 rfl (lt_N) (ce_N) rfl ⟨Nat.le_of_ble_eq_true rfl, Nat.le_of_ble_eq_true rfl⟩ ⟨Nat.le_of_ble_eq_true rfl, Nat.le_of_ble_eq_true rfl⟩ hl.1 rfl (Nat.le_of_ble_eq_true rfl) d_N_lock_75 (fun E _ _ _ _ hex => hex.elim) (fun rr MM H locs hp hW => ?_)
          obtain ⟨rfl, rfl⟩ := hp
          obtain rfl := Option.some.inj hf
          exact rd_iret C9 hlk hret hW ⟨rfl, rfl⟩ (by decide) (by decide) d_N_lock_78
        · have hf := rd_f hf c10
          refine lv_aload_n hx hb d_N_lock_50 rfl (lv_at hl 1 rfl) ?_
          refine lv_iload hx hb d_N_lock_51 (lv_at hl 0 rfl) ?_
          obtain ⟨r15, qr15, hf⟩ := rd_bind hf
          refine rd_callV (As := [.int r9]) (rest := []) rd_gd C9 hTh hW (c_N_fail hls r9 qr15) kc_N_fail ki_N_fail ks_N_fail l_N_122 rfl (lt_N) (ce_N) rfl ⟨Nat.le_of_ble_eq_true rfl, Nat.le_of_ble_eq_true rfl⟩ ⟨Nat.le_of_ble_eq_true rfl, Nat.le_of_ble_eq_true rfl⟩ hl.1 rfl (Nat.le_of_ble_eq_true rfl) d_N_lock_53 (fun E _ _ _ _ hex => hex.elim) (fun rr MM H locs hp hW => ?_)
          obtain ⟨rfl, rfl⟩ := hp
          obtain rfl := Option.some.inj hf
          exact rd_iret C9 hlk hret hW ⟨rfl, rfl⟩ (by decide) (by decide) d_N_lock_56
      · have hf := rd_t hf c8
        refine lv_aload_n hx hb d_N_lock_29 rfl (lv_at hl 0 rfl) ?_
        refine lv_iconst (v := 1) hx hb d_N_lock_30 (by decide) ?_
        obtain ⟨r16, qr16, hf⟩ := rd_bind hf
        refine rd_callV (As := [.int 1]) (rest := []) rd_gd C9 hTh hW (c_N_fail hls 1 qr16) kc_N_fail ki_N_fail ks_N_fail l_N_122 rfl (lt_N) (ce_N) rfl ⟨Nat.le_of_ble_eq_true rfl, Nat.le_of_ble_eq_true rfl⟩ ⟨Nat.le_of_ble_eq_true rfl, Nat.le_of_ble_eq_true rfl⟩ hl.1 rfl (Nat.le_of_ble_eq_true rfl) d_N_lock_31 (fun E _ _ _ _ hex => hex.elim) (fun rr MM H locs hp hW => ?_)
        obtain ⟨rfl, rfl⟩ := hp
        obtain rfl := Option.some.inj hf
        exact rd_iret C9 hlk hret hW ⟨rfl, rfl⟩ (by decide) (by decide) d_N_lock_34
def f_N_renew (M : rd_M) (p1 : Int32) (p2 : Int32) (p3 : Int32) : Option (Int32 × rd_M) :=
  (f_N_in M p1 0 3).bind fun r1 =>
  if r1 = 0 then
    (f_N_fail M 1).bind fun r3 =>
    some (r3.1, r3.2)
  else
    (f_N_in M p2 0 9).bind fun r4 =>
    if r4 = 0 then
      (f_N_fail M 1).bind fun r6 =>
      some (r6.1, r6.2)
    else
      (f_N_in M p3 1 3).bind fun r7 =>
      if r7 = 0 then
        (f_N_fail M 1).bind fun r27 =>
        some (r27.1, r27.2)
      else
        (f_N_barred M p1 p2 8 0).bind fun r9 =>
        if r9 ≤ 0 then
          if rd_in p2 10 then
          if 0 ≤ ((M 16).1 p2.toNatClampNeg) then
            (f_N_fail M 4).bind fun r13 =>
            some (r13.1, r13.2)
          else
            if rd_in p2 10 then
            if (((M 0).1 1) + 50) < (((M 11).1 p2.toNatClampNeg) + (10 * p3)) then
              (f_N_fail M 4).bind fun r16 =>
              some (r16.1, r16.2)
            else
              (f_N_canPay M p1 1 p3).bind fun r17 =>
              if r17 = 0 then
                (f_N_fail M 4).bind fun r25 =>
                some (r25.1, r25.2)
              else
                (f_N_pay M p1 1 p3 p2 1).bind fun r19 =>
                if rd_in p2 10 then
                if rd_in p2 10 then
                rd_k (rd_iU r19 11 p2.toNatClampNeg (((r19 11).1 p2.toNatClampNeg) + (10 * p3))) fun M22 =>
                if rd_in p2 10 then
                (f_N_give M22 ((M22 11).1 p2.toNatClampNeg)).bind fun r24 =>
                some (r24.1, r24.2)
                else none
                else none
                else none
            else none
          else none
        else
          (f_N_fail M r9).bind fun r26 =>
          some (r26.1, r26.2)
set_option maxRecDepth 100000 in
set_option maxHeartbeats 4000000 in
theorem c_N_renew {l : Launch} (hls : l.stackTraces = false) {D : va_G} {Ka : Nat → ClassId} {ad : Nat → Nat} {M : rd_M} (p1 : Int32) (p2 : Int32) (p3 : Int32)  {o : Int32 × rd_M} (hf : f_N_renew M p1 p2 p3 = some o) :
    rd_Met l y_N_renew b_N_renew 5 (some .int) (2, 52, 0, 0) rd_T rd_ss D rd_cl (rd_ty Ka) (rm_L Ka) ad M [.ref (ad 0), .int p1, .int p2, .int p3] (fun r M1 => r = some (.int o.1) ∧ o.2 = M1) (fun _ => False) := by
  refine rd_body (by decide) (Nat.le_of_ble_eq_true rfl) ?_
  intro p e s m below meth c C9 hlk hret hnt hTh hW ls hl
  have hx := C9.1.1
  have hb := C9.1.2.1
  have hl : lv_has ls 5 [(0, .ref (ad 0)), (1, .int p1), (2, .int p2), (3, .int p3)] := hl
  unfold f_N_renew at hf
  refine lv_iload_n hx hb d_N_renew_0 rfl (lv_at hl 1 rfl) ?_
  refine lv_iconst (v := 0) hx hb d_N_renew_1 (by decide) ?_
  refine lv_iconst (v := 3) hx hb d_N_renew_2 (by decide) ?_
  obtain ⟨r1, qr1, hf⟩ := rd_bind hf
  refine rd_callS (As := [.int p1, .int 0, .int 3]) (rest := []) rd_gd C9 hTh hW (c_N_in hls p1 0 3 qr1) kc_N_in ki_N_in l_N_116 rfl ⟨Nat.le_of_ble_eq_true rfl, Nat.le_of_ble_eq_true rfl⟩ ⟨Nat.le_of_ble_eq_true rfl, Nat.le_of_ble_eq_true rfl⟩ hl.1 rfl (Nat.le_of_ble_eq_true rfl) d_N_renew_3 (fun E _ _ _ _ hex => hex.elim) (fun rr MM H locs hp hW => ?_)
  obtain ⟨rfl, rfl⟩ := hp
  refine lv_if_eq (tgt := 28) hx hb d_N_renew_6 (by decide) (fun c2 => ?_) (fun c2 => ?_)
  · have hf := rd_t hf c2
    refine lv_aload_n hx hb d_N_renew_28 rfl (lv_at hl 0 rfl) ?_
    refine lv_iconst (v := 1) hx hb d_N_renew_29 (by decide) ?_
    obtain ⟨r3, qr3, hf⟩ := rd_bind hf
    refine rd_callV (As := [.int 1]) (rest := []) rd_gd C9 hTh hW (c_N_fail hls 1 qr3) kc_N_fail ki_N_fail ks_N_fail l_N_122 rfl (lt_N) (ce_N) rfl ⟨Nat.le_of_ble_eq_true rfl, Nat.le_of_ble_eq_true rfl⟩ ⟨Nat.le_of_ble_eq_true rfl, Nat.le_of_ble_eq_true rfl⟩ hl.1 rfl (Nat.le_of_ble_eq_true rfl) d_N_renew_30 (fun E _ _ _ _ hex => hex.elim) (fun rr MM H locs hp hW => ?_)
    obtain ⟨rfl, rfl⟩ := hp
    obtain rfl := Option.some.inj hf
    exact rd_iret C9 hlk hret hW ⟨rfl, rfl⟩ (by decide) (by decide) d_N_renew_33
  · have hf := rd_f hf c2
    refine lv_iload_n hx hb d_N_renew_9 rfl (lv_at hl 2 rfl) ?_
    refine lv_iconst (v := 0) hx hb d_N_renew_10 (by decide) ?_
    refine lv_bipush (v := 9) hx hb d_N_renew_11 (by decide) ?_
    obtain ⟨r4, qr4, hf⟩ := rd_bind hf
    refine rd_callS (As := [.int p2, .int 0, .int 9]) (rest := []) rd_gd C9 hTh hW (c_N_in hls p2 0 9 qr4) kc_N_in ki_N_in l_N_116 rfl ⟨Nat.le_of_ble_eq_true rfl, Nat.le_of_ble_eq_true rfl⟩ ⟨Nat.le_of_ble_eq_true rfl, Nat.le_of_ble_eq_true rfl⟩ hl.1 rfl (Nat.le_of_ble_eq_true rfl) d_N_renew_13 (fun E _ _ _ _ hex => hex.elim) (fun rr MM H locs hp hW => ?_)
    obtain ⟨rfl, rfl⟩ := hp
    refine lv_if_eq (tgt := 28) hx hb d_N_renew_16 (by decide) (fun c5 => ?_) (fun c5 => ?_)
    · have hf := rd_t hf c5
      refine lv_aload_n hx hb d_N_renew_28 rfl (lv_at hl 0 rfl) ?_
      refine lv_iconst (v := 1) hx hb d_N_renew_29 (by decide) ?_
      obtain ⟨r6, qr6, hf⟩ := rd_bind hf
      refine rd_callV (As := [.int 1]) (rest := []) rd_gd C9 hTh hW (c_N_fail hls 1 qr6) kc_N_fail ki_N_fail ks_N_fail l_N_122 rfl (lt_N) (ce_N) rfl ⟨Nat.le_of_ble_eq_true rfl, Nat.le_of_ble_eq_true rfl⟩ ⟨Nat.le_of_ble_eq_true rfl, Nat.le_of_ble_eq_true rfl⟩ hl.1 rfl (Nat.le_of_ble_eq_true rfl) d_N_renew_30 (fun E _ _ _ _ hex => hex.elim) (fun rr MM H locs hp hW => ?_)
      obtain ⟨rfl, rfl⟩ := hp
      obtain rfl := Option.some.inj hf
      exact rd_iret C9 hlk hret hW ⟨rfl, rfl⟩ (by decide) (by decide) d_N_renew_33
    · have hf := rd_f hf c5
      refine lv_iload_n hx hb d_N_renew_19 rfl (lv_at hl 3 rfl) ?_
      refine lv_iconst (v := 1) hx hb d_N_renew_20 (by decide) ?_
      refine lv_iconst (v := 3) hx hb d_N_renew_21 (by decide) ?_
      obtain ⟨r7, qr7, hf⟩ := rd_bind hf
      refine rd_callS (As := [.int p3, .int 1, .int 3]) (rest := []) rd_gd C9 hTh hW (c_N_in hls p3 1 3 qr7) kc_N_in ki_N_in l_N_116 rfl ⟨Nat.le_of_ble_eq_true rfl, Nat.le_of_ble_eq_true rfl⟩ ⟨Nat.le_of_ble_eq_true rfl, Nat.le_of_ble_eq_true rfl⟩ hl.1 rfl (Nat.le_of_ble_eq_true rfl) d_N_renew_22 (fun E _ _ _ _ hex => hex.elim) (fun rr MM H locs hp hW => ?_)
      obtain ⟨rfl, rfl⟩ := hp
      refine lv_if_ne (tgt := 34) hx hb d_N_renew_25 (by decide) (fun c8 => ?_) (fun c8 => ?_)
      · have hf := rd_f hf c8
        refine lv_aload_n hx hb d_N_renew_34 rfl (lv_at hl 0 rfl) ?_
        refine lv_iload_n hx hb d_N_renew_35 rfl (lv_at hl 1 rfl) ?_
        refine lv_iload_n hx hb d_N_renew_36 rfl (lv_at hl 2 rfl) ?_
        refine lv_bipush (v := 8) hx hb d_N_renew_37 (by decide) ?_
        refine lv_iconst (v := 0) hx hb d_N_renew_39 (by decide) ?_
        obtain ⟨r9, qr9, hf⟩ := rd_bind hf
        refine rd_callV (As := [.int p1, .int p2, .int 8, .int 0]) (rest := []) rd_gd C9 hTh hW (c_N_barred hls p1 p2 8 0 qr9) kc_N_barred ki_N_barred ks_N_barred l_N_158 rfl (lt_N) (ce_N) rfl ⟨Nat.le_of_ble_eq_true rfl, Nat.le_of_ble_eq_true rfl⟩ ⟨Nat.le_of_ble_eq_true rfl, Nat.le_of_ble_eq_true rfl⟩ hl.1 rfl (Nat.le_of_ble_eq_true rfl) d_N_renew_40 (fun E _ _ _ _ hex => hex.elim) (fun rr MM H locs hp hW => ?_)
        obtain ⟨rfl, rfl⟩ := hp
        refine lv_istore (lv' := [(4, .int r9), (0, .ref (ad 0)), (1, .int p1), (2, .int p2), (3, .int p3)]) hx hb d_N_renew_43 hl (by decide) rfl (fun ls hl => ?_)
        refine lv_iload hx hb d_N_renew_45 (lv_at hl 0 rfl) ?_
        refine lv_if_le (tgt := 57) hx hb d_N_renew_47 (by decide) (fun c10 => ?_) (fun c10 => ?_)
        · have hf := rd_t hf c10
          refine lv_aload_n hx hb d_N_renew_57 rfl (lv_at hl 1 rfl) ?_
          refine gf_N_wants C9 hW l_N_58 d_N_renew_58 ?_
          refine lv_iload_n hx hb d_N_renew_61 rfl (lv_at hl 3 rfl) ?_
          obtain ⟨g11, hf⟩ := rd_g hf
          refine al_m_wants C9 hW rfl g11 d_N_renew_62 ?_
          refine lv_if_ge (tgt := 97) hx hb d_N_renew_63 (by decide) (fun c12 => ?_) (fun c12 => ?_)
          · have hf := rd_t hf c12
            refine lv_aload_n hx hb d_N_renew_97 rfl (lv_at hl 1 rfl) ?_
            refine lv_iconst (v := 4) hx hb d_N_renew_98 (by decide) ?_
            obtain ⟨r13, qr13, hf⟩ := rd_bind hf
            refine rd_callV (As := [.int 4]) (rest := []) rd_gd C9 hTh hW (c_N_fail hls 4 qr13) kc_N_fail ki_N_fail ks_N_fail l_N_122 rfl (lt_N) (ce_N) rfl ⟨Nat.le_of_ble_eq_true rfl, Nat.le_of_ble_eq_true rfl⟩ ⟨Nat.le_of_ble_eq_true rfl, Nat.le_of_ble_eq_true rfl⟩ hl.1 rfl (Nat.le_of_ble_eq_true rfl) d_N_renew_99 (fun E _ _ _ _ hex => hex.elim) (fun rr MM H locs hp hW => ?_)
            obtain ⟨rfl, rfl⟩ := hp
            obtain rfl := Option.some.inj hf
            exact rd_iret C9 hlk hret hW ⟨rfl, rfl⟩ (by decide) (by decide) d_N_renew_102
          · have hf := rd_f hf c12
            refine lv_aload_n hx hb d_N_renew_66 rfl (lv_at hl 1 rfl) ?_
            refine gf_N_expiry C9 hW l_N_43 d_N_renew_67 ?_
            refine lv_iload_n hx hb d_N_renew_70 rfl (lv_at hl 3 rfl) ?_
            obtain ⟨g14, hf⟩ := rd_g hf
            refine al_m_expiry C9 hW rfl g14 d_N_renew_71 ?_
            refine lv_bipush (v := 10) hx hb d_N_renew_72 (by decide) ?_
            refine lv_iload_n hx hb d_N_renew_74 rfl (lv_at hl 4 rfl) ?_
            refine lv_imul hx hb d_N_renew_75 ?_
            refine lv_iadd hx hb d_N_renew_76 ?_
            refine lv_aload_n hx hb d_N_renew_77 rfl (lv_at hl 1 rfl) ?_
            refine gf_N_day C9 hW l_N_98 d_N_renew_78 ?_
            refine lv_bipush (v := 50) hx hb d_N_renew_81 (by decide) ?_
            refine lv_iadd hx hb d_N_renew_83 ?_
            refine lv_icmp_gt (tgt := 97) hx hb d_N_renew_84 (by decide) (fun c15 => ?_) (fun c15 => ?_)
            · have hf := rd_t hf c15
              refine lv_aload_n hx hb d_N_renew_97 rfl (lv_at hl 1 rfl) ?_
              refine lv_iconst (v := 4) hx hb d_N_renew_98 (by decide) ?_
              obtain ⟨r16, qr16, hf⟩ := rd_bind hf
              refine rd_callV (As := [.int 4]) (rest := []) rd_gd C9 hTh hW (c_N_fail hls 4 qr16) kc_N_fail ki_N_fail ks_N_fail l_N_122 rfl (lt_N) (ce_N) rfl ⟨Nat.le_of_ble_eq_true rfl, Nat.le_of_ble_eq_true rfl⟩ ⟨Nat.le_of_ble_eq_true rfl, Nat.le_of_ble_eq_true rfl⟩ hl.1 rfl (Nat.le_of_ble_eq_true rfl) d_N_renew_99 (fun E _ _ _ _ hex => hex.elim) (fun rr MM H locs hp hW => ?_)
              obtain ⟨rfl, rfl⟩ := hp
              obtain rfl := Option.some.inj hf
              exact rd_iret C9 hlk hret hW ⟨rfl, rfl⟩ (by decide) (by decide) d_N_renew_102
            · have hf := rd_f hf c15
              refine lv_aload_n hx hb d_N_renew_87 rfl (lv_at hl 1 rfl) ?_
              refine lv_iload_n hx hb d_N_renew_88 rfl (lv_at hl 2 rfl) ?_
              refine lv_iconst (v := 1) hx hb d_N_renew_89 (by decide) ?_
              refine lv_iload_n hx hb d_N_renew_90 rfl (lv_at hl 4 rfl) ?_
              obtain ⟨r17, qr17, hf⟩ := rd_bind hf
              refine rd_callV (As := [.int p1, .int 1, .int p3]) (rest := []) rd_gd C9 hTh hW (c_N_canPay hls p1 1 p3 qr17) kc_N_canPay ki_N_canPay ks_N_canPay l_N_148 rfl (lt_N) (ce_N) rfl ⟨Nat.le_of_ble_eq_true rfl, Nat.le_of_ble_eq_true rfl⟩ ⟨Nat.le_of_ble_eq_true rfl, Nat.le_of_ble_eq_true rfl⟩ hl.1 rfl (Nat.le_of_ble_eq_true rfl) d_N_renew_91 (fun E _ _ _ _ hex => hex.elim) (fun rr MM H locs hp hW => ?_)
              obtain ⟨rfl, rfl⟩ := hp
              refine lv_if_ne (tgt := 103) hx hb d_N_renew_94 (by decide) (fun c18 => ?_) (fun c18 => ?_)
              · have hf := rd_f hf c18
                refine lv_aload_n hx hb d_N_renew_103 rfl (lv_at hl 1 rfl) ?_
                refine lv_iload_n hx hb d_N_renew_104 rfl (lv_at hl 2 rfl) ?_
                refine lv_iconst (v := 1) hx hb d_N_renew_105 (by decide) ?_
                refine lv_iload_n hx hb d_N_renew_106 rfl (lv_at hl 4 rfl) ?_
                refine lv_iload_n hx hb d_N_renew_107 rfl (lv_at hl 3 rfl) ?_
                refine lv_iconst (v := 1) hx hb d_N_renew_108 (by decide) ?_
                obtain ⟨r19, qr19, hf⟩ := rd_bind hf
                refine rd_callV (As := [.int p1, .int 1, .int p3, .int p2, .int 1]) (rest := []) rd_gd C9 hTh hW (c_N_pay hls p1 1 p3 p2 1 qr19) kc_N_pay ki_N_pay ks_N_pay l_N_154 rfl (lt_N) (ce_N) rfl ⟨Nat.le_of_ble_eq_true rfl, Nat.le_of_ble_eq_true rfl⟩ ⟨Nat.le_of_ble_eq_true rfl, Nat.le_of_ble_eq_true rfl⟩ hl.1 rfl (Nat.le_of_ble_eq_true rfl) d_N_renew_109 (fun E _ _ _ _ hex => hex.elim) (fun rr MM H locs hp hW => ?_)
                obtain ⟨rfl, rfl⟩ := hp
                refine lv_aload_n hx hb d_N_renew_112 rfl (lv_at hl 1 rfl) ?_
                refine gf_N_expiry C9 hW l_N_43 d_N_renew_113 ?_
                refine lv_iload_n hx hb d_N_renew_116 rfl (lv_at hl 3 rfl) ?_
                refine lv_dup2_11 hx hb d_N_renew_117 rfl rfl ?_
                obtain ⟨g20, hf⟩ := rd_g hf
                refine al_m_expiry C9 hW rfl g20 d_N_renew_118 ?_
                refine lv_bipush (v := 10) hx hb d_N_renew_119 (by decide) ?_
                refine lv_iload_n hx hb d_N_renew_121 rfl (lv_at hl 4 rfl) ?_
                refine lv_imul hx hb d_N_renew_122 ?_
                refine lv_iadd hx hb d_N_renew_123 ?_
                obtain ⟨g21, hf⟩ := rd_g hf
                refine as_m_expiry C9 hW rfl g21 d_N_renew_124 (fun H locs hW => ?_)
                obtain ⟨M22, hM22, hf⟩ := rd_k_el hf
                rw [← hM22] at hW
                refine lv_aload_n hx hb d_N_renew_125 rfl (lv_at hl 1 rfl) ?_
                refine lv_aload_n hx hb d_N_renew_126 rfl (lv_at hl 1 rfl) ?_
                refine gf_N_expiry C9 hW l_N_43 d_N_renew_127 ?_
                refine lv_iload_n hx hb d_N_renew_130 rfl (lv_at hl 3 rfl) ?_
                obtain ⟨g23, hf⟩ := rd_g hf
                refine al_m_expiry C9 hW rfl g23 d_N_renew_131 ?_
                obtain ⟨r24, qr24, hf⟩ := rd_bind hf
                refine rd_callV (As := [.int ((M22 11).1 p2.toNatClampNeg)]) (rest := []) rd_gd C9 hTh hW (c_N_give hls ((M22 11).1 p2.toNatClampNeg) qr24) kc_N_give ki_N_give ks_N_give l_N_126 rfl (lt_N) (ce_N) rfl ⟨Nat.le_of_ble_eq_true rfl, Nat.le_of_ble_eq_true rfl⟩ ⟨Nat.le_of_ble_eq_true rfl, Nat.le_of_ble_eq_true rfl⟩ hl.1 rfl (Nat.le_of_ble_eq_true rfl) d_N_renew_132 (fun E _ _ _ _ hex => hex.elim) (fun rr MM H locs hp hW => ?_)
                obtain ⟨rfl, rfl⟩ := hp
                obtain rfl := Option.some.inj hf
                exact rd_iret C9 hlk hret hW ⟨rfl, rfl⟩ (by decide) (by decide) d_N_renew_135
              · have hf := rd_t hf c18
                refine lv_aload_n hx hb d_N_renew_97 rfl (lv_at hl 1 rfl) ?_
                refine lv_iconst (v := 4) hx hb d_N_renew_98 (by decide) ?_
                obtain ⟨r25, qr25, hf⟩ := rd_bind hf
                refine rd_callV (As := [.int 4]) (rest := []) rd_gd C9 hTh hW (c_N_fail hls 4 qr25) kc_N_fail ki_N_fail ks_N_fail l_N_122 rfl (lt_N) (ce_N) rfl ⟨Nat.le_of_ble_eq_true rfl, Nat.le_of_ble_eq_true rfl⟩ ⟨Nat.le_of_ble_eq_true rfl, Nat.le_of_ble_eq_true rfl⟩ hl.1 rfl (Nat.le_of_ble_eq_true rfl) d_N_renew_99 (fun E _ _ _ _ hex => hex.elim) (fun rr MM H locs hp hW => ?_)
                obtain ⟨rfl, rfl⟩ := hp
                obtain rfl := Option.some.inj hf
                exact rd_iret C9 hlk hret hW ⟨rfl, rfl⟩ (by decide) (by decide) d_N_renew_102
        · have hf := rd_f hf c10
          refine lv_aload_n hx hb d_N_renew_50 rfl (lv_at hl 1 rfl) ?_
          refine lv_iload hx hb d_N_renew_51 (lv_at hl 0 rfl) ?_
          obtain ⟨r26, qr26, hf⟩ := rd_bind hf
          refine rd_callV (As := [.int r9]) (rest := []) rd_gd C9 hTh hW (c_N_fail hls r9 qr26) kc_N_fail ki_N_fail ks_N_fail l_N_122 rfl (lt_N) (ce_N) rfl ⟨Nat.le_of_ble_eq_true rfl, Nat.le_of_ble_eq_true rfl⟩ ⟨Nat.le_of_ble_eq_true rfl, Nat.le_of_ble_eq_true rfl⟩ hl.1 rfl (Nat.le_of_ble_eq_true rfl) d_N_renew_53 (fun E _ _ _ _ hex => hex.elim) (fun rr MM H locs hp hW => ?_)
          obtain ⟨rfl, rfl⟩ := hp
          obtain rfl := Option.some.inj hf
          exact rd_iret C9 hlk hret hW ⟨rfl, rfl⟩ (by decide) (by decide) d_N_renew_56
      · have hf := rd_t hf c8
        refine lv_aload_n hx hb d_N_renew_28 rfl (lv_at hl 0 rfl) ?_
        refine lv_iconst (v := 1) hx hb d_N_renew_29 (by decide) ?_
        obtain ⟨r27, qr27, hf⟩ := rd_bind hf
        refine rd_callV (As := [.int 1]) (rest := []) rd_gd C9 hTh hW (c_N_fail hls 1 qr27) kc_N_fail ki_N_fail ks_N_fail l_N_122 rfl (lt_N) (ce_N) rfl ⟨Nat.le_of_ble_eq_true rfl, Nat.le_of_ble_eq_true rfl⟩ ⟨Nat.le_of_ble_eq_true rfl, Nat.le_of_ble_eq_true rfl⟩ hl.1 rfl (Nat.le_of_ble_eq_true rfl) d_N_renew_30 (fun E _ _ _ _ hex => hex.elim) (fun rr MM H locs hp hW => ?_)
        obtain ⟨rfl, rfl⟩ := hp
        obtain rfl := Option.some.inj hf
        exact rd_iret C9 hlk hret hW ⟨rfl, rfl⟩ (by decide) (by decide) d_N_renew_33
