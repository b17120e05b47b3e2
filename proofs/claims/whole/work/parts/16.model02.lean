def f_N_host (M : rd_M) (p1 : Int32) (p2 : Int32) (p3 : Int32) : Option (Int32 × rd_M) :=
  (f_N_in M p1 0 3).bind fun r1 =>
  if r1 = 0 then
    (f_N_fail M 1).bind fun r3 =>
    some (r3.1, r3.2)
  else
    (f_N_in M p2 (-1) 9).bind fun r4 =>
    if r4 = 0 then
      (f_N_fail M 1).bind fun r6 =>
      some (r6.1, r6.2)
    else
      (f_N_in M p3 0 999).bind fun r7 =>
      if r7 = 0 then
        (f_N_fail M 1).bind fun r9 =>
        some (r9.1, r9.2)
      else
        rd_k (if 0 ≤ p2 then 0 else 1 : Int32) fun z11 =>
        rd_k (if p3 = 0 then 1 else 0 : Int32) fun z13 =>
        if z11 = z13 then
          if p2 < 0 then
            if p2 < 0 then
              if ((M 0).1 9) = 8 then
                (f_N_fail M 4).bind fun r26 =>
                some (r26.1, r26.2)
              else
                if rd_in ((M 0).1 9) 8 then
                rd_k (rd_iU M 7 (((M 0).1 9).toNatClampNeg) p1) fun M19 =>
                if rd_in ((M19 0).1 9) 8 then
                rd_k (rd_iU M19 9 (((M19 0).1 9).toNatClampNeg) p2) fun M21 =>
                if rd_in ((M21 0).1 9) 8 then
                rd_k (rd_iU M21 8 (((M21 0).1 9).toNatClampNeg) p3) fun M23 =>
                rd_k (rd_iU M23 0 9 (((M23 0).1 9) + 1)) fun M24 =>
                (f_N_give M24 (((M24 0).1 9) - 1)).bind fun r25 =>
                some (r25.1, r25.2)
                else none
                else none
                else none
            else
              if rd_in p2 10 then
              if ((M 10).1 p2.toNatClampNeg) = p1 then
                if ((M 0).1 9) = 8 then
                  (f_N_fail M 4).bind fun r38 =>
                  some (r38.1, r38.2)
                else
                  if rd_in ((M 0).1 9) 8 then
                  rd_k (rd_iU M 7 (((M 0).1 9).toNatClampNeg) p1) fun M31 =>
                  if rd_in ((M31 0).1 9) 8 then
                  rd_k (rd_iU M31 9 (((M31 0).1 9).toNatClampNeg) p2) fun M33 =>
                  if rd_in ((M33 0).1 9) 8 then
                  rd_k (rd_iU M33 8 (((M33 0).1 9).toNatClampNeg) p3) fun M35 =>
                  rd_k (rd_iU M35 0 9 (((M35 0).1 9) + 1)) fun M36 =>
                  (f_N_give M36 (((M36 0).1 9) - 1)).bind fun r37 =>
                  some (r37.1, r37.2)
                  else none
                  else none
                  else none
              else
                (f_N_fail M 3).bind fun r39 =>
                some (r39.1, r39.2)
              else none
          else
            (f_N_noDomain M p2).bind fun r40 =>
            if r40 = 0 then
              if p2 < 0 then
                if ((M 0).1 9) = 8 then
                  (f_N_fail M 4).bind fun r52 =>
                  some (r52.1, r52.2)
                else
                  if rd_in ((M 0).1 9) 8 then
                  rd_k (rd_iU M 7 (((M 0).1 9).toNatClampNeg) p1) fun M45 =>
                  if rd_in ((M45 0).1 9) 8 then
                  rd_k (rd_iU M45 9 (((M45 0).1 9).toNatClampNeg) p2) fun M47 =>
                  if rd_in ((M47 0).1 9) 8 then
                  rd_k (rd_iU M47 8 (((M47 0).1 9).toNatClampNeg) p3) fun M49 =>
                  rd_k (rd_iU M49 0 9 (((M49 0).1 9) + 1)) fun M50 =>
                  (f_N_give M50 (((M50 0).1 9) - 1)).bind fun r51 =>
                  some (r51.1, r51.2)
                  else none
                  else none
                  else none
              else
                if rd_in p2 10 then
                if ((M 10).1 p2.toNatClampNeg) = p1 then
                  if ((M 0).1 9) = 8 then
                    (f_N_fail M 4).bind fun r64 =>
                    some (r64.1, r64.2)
                  else
                    if rd_in ((M 0).1 9) 8 then
                    rd_k (rd_iU M 7 (((M 0).1 9).toNatClampNeg) p1) fun M57 =>
                    if rd_in ((M57 0).1 9) 8 then
                    rd_k (rd_iU M57 9 (((M57 0).1 9).toNatClampNeg) p2) fun M59 =>
                    if rd_in ((M59 0).1 9) 8 then
                    rd_k (rd_iU M59 8 (((M59 0).1 9).toNatClampNeg) p3) fun M61 =>
                    rd_k (rd_iU M61 0 9 (((M61 0).1 9) + 1)) fun M62 =>
                    (f_N_give M62 (((M62 0).1 9) - 1)).bind fun r63 =>
                    some (r63.1, r63.2)
                    else none
                    else none
                    else none
                else
                  (f_N_fail M 3).bind fun r65 =>
                  some (r65.1, r65.2)
                else none
            else
              (f_N_fail M 2).bind fun r66 =>
              some (r66.1, r66.2)
        else
          (f_N_fail M 1).bind fun r67 =>
          some (r67.1, r67.2)
set_option maxRecDepth 100000 in
set_option maxHeartbeats 4000000 in
theorem c_N_host {l : Launch} (hls : l.stackTraces = false) {D : va_G} {Ka : Nat → ClassId} {ad : Nat → Nat} {M : rd_M} (p1 : Int32) (p2 : Int32) (p3 : Int32)  {o : Int32 × rd_M} (hf : f_N_host M p1 p2 p3 = some o) :
    rd_Met l y_N_host b_N_host 4 (some .int) (1, 22, 0, 0) rd_T rd_ss D rd_cl (rd_ty Ka) (rm_L Ka) ad M [.ref (ad 0), .int p1, .int p2, .int p3] (fun r M1 => r = some (.int o.1) ∧ o.2 = M1) (fun _ => False) := by
  refine rd_body (by decide) (Nat.le_of_ble_eq_true rfl) ?_
  intro p e s m below meth c C9 hlk hret hnt hTh hW ls hl
  have hx := C9.1.1
  have hb := C9.1.2.1
  have hl : lv_has ls 4 [(0, .ref (ad 0)), (1, .int p1), (2, .int p2), (3, .int p3)] := hl
  unfold f_N_host at hf
  refine lv_iload_n hx hb d_N_host_0 rfl (lv_at hl 1 rfl) ?_
  refine lv_iconst (v := 0) hx hb d_N_host_1 (by decide) ?_
  refine lv_iconst (v := 3) hx hb d_N_host_2 (by decide) ?_
  obtain ⟨r1, qr1, hf⟩ := rd_bind hf
  refine rd_callS (As := [.int p1, .int 0, .int 3]) (rest := []) rd_gd C9 hTh hW (c_N_in hls p1 0 3 qr1) kc_N_in ki_N_in l_N_116 rfl ⟨Nat.le_of_ble_eq_true rfl, Nat.le_of_ble_eq_true rfl⟩ ⟨Nat.le_of_ble_eq_true rfl, Nat.le_of_ble_eq_true rfl⟩ hl.1 rfl (Nat.le_of_ble_eq_true rfl) d_N_host_3 (fun E _ _ _ _ hex => hex.elim) (fun rr MM H locs hp hW => ?_)
  obtain ⟨rfl, rfl⟩ := hp
  refine lv_if_eq (tgt := 51) hx hb d_N_host_6 (by decide) (fun c2 => ?_) (fun c2 => ?_)
  · have hf := rd_t hf c2
    refine lv_aload_n hx hb d_N_host_51 rfl (lv_at hl 0 rfl) ?_
    refine lv_iconst (v := 1) hx hb d_N_host_52 (by decide) ?_
    obtain ⟨r3, qr3, hf⟩ := rd_bind hf
    refine rd_callV (As := [.int 1]) (rest := []) rd_gd C9 hTh hW (c_N_fail hls 1 qr3) kc_N_fail ki_N_fail ks_N_fail l_N_122 rfl (lt_N) (ce_N) rfl ⟨Nat.le_of_ble_eq_true rfl, Nat.le_of_ble_eq_true rfl⟩ ⟨Nat.le_of_ble_eq_true rfl, Nat.le_of_ble_eq_true rfl⟩ hl.1 rfl (Nat.le_of_ble_eq_true rfl) d_N_host_53 (fun E _ _ _ _ hex => hex.elim) (fun rr MM H locs hp hW => ?_)
    obtain ⟨rfl, rfl⟩ := hp
    obtain rfl := Option.some.inj hf
    exact rd_iret C9 hlk hret hW ⟨rfl, rfl⟩ (by decide) (by decide) d_N_host_56
  · have hf := rd_f hf c2
    refine lv_iload_n hx hb d_N_host_9 rfl (lv_at hl 2 rfl) ?_
    refine lv_iconst (v := (-1)) hx hb d_N_host_10 (by decide) ?_
    refine lv_bipush (v := 9) hx hb d_N_host_11 (by decide) ?_
    obtain ⟨r4, qr4, hf⟩ := rd_bind hf
    refine rd_callS (As := [.int p2, .int (-1), .int 9]) (rest := []) rd_gd C9 hTh hW (c_N_in hls p2 (-1) 9 qr4) kc_N_in ki_N_in l_N_116 rfl ⟨Nat.le_of_ble_eq_true rfl, Nat.le_of_ble_eq_true rfl⟩ ⟨Nat.le_of_ble_eq_true rfl, Nat.le_of_ble_eq_true rfl⟩ hl.1 rfl (Nat.le_of_ble_eq_true rfl) d_N_host_13 (fun E _ _ _ _ hex => hex.elim) (fun rr MM H locs hp hW => ?_)
    obtain ⟨rfl, rfl⟩ := hp
    refine lv_if_eq (tgt := 51) hx hb d_N_host_16 (by decide) (fun c5 => ?_) (fun c5 => ?_)
    · have hf := rd_t hf c5
      refine lv_aload_n hx hb d_N_host_51 rfl (lv_at hl 0 rfl) ?_
      refine lv_iconst (v := 1) hx hb d_N_host_52 (by decide) ?_
      obtain ⟨r6, qr6, hf⟩ := rd_bind hf
      refine rd_callV (As := [.int 1]) (rest := []) rd_gd C9 hTh hW (c_N_fail hls 1 qr6) kc_N_fail ki_N_fail ks_N_fail l_N_122 rfl (lt_N) (ce_N) rfl ⟨Nat.le_of_ble_eq_true rfl, Nat.le_of_ble_eq_true rfl⟩ ⟨Nat.le_of_ble_eq_true rfl, Nat.le_of_ble_eq_true rfl⟩ hl.1 rfl (Nat.le_of_ble_eq_true rfl) d_N_host_53 (fun E _ _ _ _ hex => hex.elim) (fun rr MM H locs hp hW => ?_)
      obtain ⟨rfl, rfl⟩ := hp
      obtain rfl := Option.some.inj hf
      exact rd_iret C9 hlk hret hW ⟨rfl, rfl⟩ (by decide) (by decide) d_N_host_56
    · have hf := rd_f hf c5
      refine lv_iload_n hx hb d_N_host_19 rfl (lv_at hl 3 rfl) ?_
      refine lv_iconst (v := 0) hx hb d_N_host_20 (by decide) ?_
      refine lv_sipush (v := 999) hx hb d_N_host_21 (by decide) ?_
      obtain ⟨r7, qr7, hf⟩ := rd_bind hf
      refine rd_callS (As := [.int p3, .int 0, .int 999]) (rest := []) rd_gd C9 hTh hW (c_N_in hls p3 0 999 qr7) kc_N_in ki_N_in l_N_116 rfl ⟨Nat.le_of_ble_eq_true rfl, Nat.le_of_ble_eq_true rfl⟩ ⟨Nat.le_of_ble_eq_true rfl, Nat.le_of_ble_eq_true rfl⟩ hl.1 rfl (Nat.le_of_ble_eq_true rfl) d_N_host_24 (fun E _ _ _ _ hex => hex.elim) (fun rr MM H locs hp hW => ?_)
      obtain ⟨rfl, rfl⟩ := hp
      refine lv_if_eq (tgt := 51) hx hb d_N_host_27 (by decide) (fun c8 => ?_) (fun c8 => ?_)
      · have hf := rd_t hf c8
        refine lv_aload_n hx hb d_N_host_51 rfl (lv_at hl 0 rfl) ?_
        refine lv_iconst (v := 1) hx hb d_N_host_52 (by decide) ?_
        obtain ⟨r9, qr9, hf⟩ := rd_bind hf
        refine rd_callV (As := [.int 1]) (rest := []) rd_gd C9 hTh hW (c_N_fail hls 1 qr9) kc_N_fail ki_N_fail ks_N_fail l_N_122 rfl (lt_N) (ce_N) rfl ⟨Nat.le_of_ble_eq_true rfl, Nat.le_of_ble_eq_true rfl⟩ ⟨Nat.le_of_ble_eq_true rfl, Nat.le_of_ble_eq_true rfl⟩ hl.1 rfl (Nat.le_of_ble_eq_true rfl) d_N_host_53 (fun E _ _ _ _ hex => hex.elim) (fun rr MM H locs hp hW => ?_)
        obtain ⟨rfl, rfl⟩ := hp
        obtain rfl := Option.some.inj hf
        exact rd_iret C9 hlk hret hW ⟨rfl, rfl⟩ (by decide) (by decide) d_N_host_56
      · have hf := rd_f hf c8
        refine lv_iload_n hx hb d_N_host_30 rfl (lv_at hl 2 rfl) ?_
        obtain ⟨z11, hz11, hf⟩ := rd_k_el hf
        refine rd_sel z11 (fun z => F0 m 39 ls (.int z :: [])) hz11 (fun hJ => ?_) ?_
        · refine lv_if_ge (tgt := 38) hx hb d_N_host_31 (by decide) (fun c10 => ?_) (fun c10 => ?_)
          · have hJ := rd_selt (g := (fun z => F0 m 39 ls (.int z :: []))) hJ c10
            refine lv_iconst (v := 0) hx hb d_N_host_38 (by decide) ?_
            exact hJ
          · have hJ := rd_self (g := (fun z => F0 m 39 ls (.int z :: []))) hJ c10
            refine lv_iconst (v := 1) hx hb d_N_host_34 (by decide) ?_
            refine lv_goto (tgt := 39) hx hb d_N_host_35 (by decide) ?_
            exact hJ
        refine lv_iload_n hx hb d_N_host_39 rfl (lv_at hl 3 rfl) ?_
        obtain ⟨z13, hz13, hf⟩ := rd_k_el hf
        refine rd_sel z13 (fun z => F0 m 48 ls (.int z :: [.int z11])) hz13 (fun hJ => ?_) ?_
        · refine lv_if_ne (tgt := 47) hx hb d_N_host_40 (by decide) (fun c12 => ?_) (fun c12 => ?_)
          · have hJ := rd_self (g := (fun z => F0 m 48 ls (.int z :: [.int z11]))) hJ c12
            refine lv_iconst (v := 0) hx hb d_N_host_47 (by decide) ?_
            exact hJ
          · have hJ := rd_selt (g := (fun z => F0 m 48 ls (.int z :: [.int z11]))) hJ c12
            refine lv_iconst (v := 1) hx hb d_N_host_43 (by decide) ?_
            refine lv_goto (tgt := 48) hx hb d_N_host_44 (by decide) ?_
            exact hJ
        refine lv_icmp_eq (tgt := 57) hx hb d_N_host_48 (by decide) (fun c14 => ?_) (fun c14 => ?_)
        · have hf := rd_t hf c14
          refine lv_iload_n hx hb d_N_host_57 rfl (lv_at hl 2 rfl) ?_
          refine lv_if_lt (tgt := 75) hx hb d_N_host_58 (by decide) (fun c15 => ?_) (fun c15 => ?_)
          · have hf := rd_t hf c15
            refine lv_iload_n hx hb d_N_host_75 rfl (lv_at hl 2 rfl) ?_
            refine lv_if_lt (tgt := 95) hx hb d_N_host_76 (by decide) (fun c16 => ?_) (fun c16 => ?_)
            · have hf := rd_t hf c16
              refine lv_aload_n hx hb d_N_host_95 rfl (lv_at hl 0 rfl) ?_
              refine gf_N_hosts C9 hW l_N_85 d_N_host_96 ?_
              refine lv_bipush (v := 8) hx hb d_N_host_99 (by decide) ?_
              refine lv_icmp_ne (tgt := 110) hx hb d_N_host_101 (by decide) (fun c17 => ?_) (fun c17 => ?_)
              · have hf := rd_f hf c17
                refine lv_aload_n hx hb d_N_host_110 rfl (lv_at hl 0 rfl) ?_
                refine gf_N_hostOwner C9 hW l_N_31 d_N_host_111 ?_
                refine lv_aload_n hx hb d_N_host_114 rfl (lv_at hl 0 rfl) ?_
                refine gf_N_hosts C9 hW l_N_85 d_N_host_115 ?_
                refine lv_iload_n hx hb d_N_host_118 rfl (lv_at hl 1 rfl) ?_
                obtain ⟨g18, hf⟩ := rd_g hf
                refine as_m_hostOwner C9 hW rfl g18 d_N_host_119 (fun H locs hW => ?_)
                obtain ⟨M19, hM19, hf⟩ := rd_k_el hf
                rw [← hM19] at hW
                refine lv_aload_n hx hb d_N_host_120 rfl (lv_at hl 0 rfl) ?_
                refine gf_N_under C9 hW l_N_37 d_N_host_121 ?_
                refine lv_aload_n hx hb d_N_host_124 rfl (lv_at hl 0 rfl) ?_
                refine gf_N_hosts C9 hW l_N_85 d_N_host_125 ?_
                refine lv_iload_n hx hb d_N_host_128 rfl (lv_at hl 2 rfl) ?_
                obtain ⟨g20, hf⟩ := rd_g hf
                refine as_m_under C9 hW rfl g20 d_N_host_129 (fun H locs hW => ?_)
                obtain ⟨M21, hM21, hf⟩ := rd_k_el hf
                rw [← hM21] at hW
                refine lv_aload_n hx hb d_N_host_130 rfl (lv_at hl 0 rfl) ?_
                refine gf_N_address C9 hW l_N_34 d_N_host_131 ?_
                refine lv_aload_n hx hb d_N_host_134 rfl (lv_at hl 0 rfl) ?_
                refine gf_N_hosts C9 hW l_N_85 d_N_host_135 ?_
                refine lv_iload_n hx hb d_N_host_138 rfl (lv_at hl 3 rfl) ?_
                obtain ⟨g22, hf⟩ := rd_g hf
                refine as_m_address C9 hW rfl g22 d_N_host_139 (fun H locs hW => ?_)
                obtain ⟨M23, hM23, hf⟩ := rd_k_el hf
                rw [← hM23] at hW
                refine lv_aload_n hx hb d_N_host_140 rfl (lv_at hl 0 rfl) ?_
                refine lv_dup hx hb d_N_host_141 rfl ?_
                refine gf_N_hosts C9 hW l_N_85 d_N_host_142 ?_
                refine lv_iconst (v := 1) hx hb d_N_host_145 (by decide) ?_
                refine lv_iadd hx hb d_N_host_146 ?_
                refine pf_N_hosts C9 hW l_N_85 d_N_host_147 (fun H locs hW => ?_)
                obtain ⟨M24, hM24, hf⟩ := rd_k_el hf
                rw [← hM24] at hW
                refine lv_aload_n hx hb d_N_host_150 rfl (lv_at hl 0 rfl) ?_
                refine lv_aload_n hx hb d_N_host_151 rfl (lv_at hl 0 rfl) ?_
                refine gf_N_hosts C9 hW l_N_85 d_N_host_152 ?_
                refine lv_iconst (v := 1) hx hb d_N_host_155 (by decide) ?_
                refine lv_isub hx hb d_N_host_156 ?_
                obtain ⟨r25, qr25, hf⟩ := rd_bind hf
                refine rd_callV (As := [.int (((M24 0).1 9) - 1)]) (rest := []) rd_gd C9 hTh hW (c_N_give hls (((M24 0).1 9) - 1) qr25) kc_N_give ki_N_give ks_N_give l_N_126 rfl (lt_N) (ce_N) rfl ⟨Nat.le_of_ble_eq_true rfl, Nat.le_of_ble_eq_true rfl⟩ ⟨Nat.le_of_ble_eq_true rfl, Nat.le_of_ble_eq_true rfl⟩ hl.1 rfl (Nat.le_of_ble_eq_true rfl) d_N_host_157 (fun E _ _ _ _ hex => hex.elim) (fun rr MM H locs hp hW => ?_)
                obtain ⟨rfl, rfl⟩ := hp
                obtain rfl := Option.some.inj hf
                exact rd_iret C9 hlk hret hW ⟨rfl, rfl⟩ (by decide) (by decide) d_N_host_160
              · have hf := rd_t hf c17
                refine lv_aload_n hx hb d_N_host_104 rfl (lv_at hl 0 rfl) ?_
                refine lv_iconst (v := 4) hx hb d_N_host_105 (by decide) ?_
                obtain ⟨r26, qr26, hf⟩ := rd_bind hf
                refine rd_callV (As := [.int 4]) (rest := []) rd_gd C9 hTh hW (c_N_fail hls 4 qr26) kc_N_fail ki_N_fail ks_N_fail l_N_122 rfl (lt_N) (ce_N) rfl ⟨Nat.le_of_ble_eq_true rfl, Nat.le_of_ble_eq_true rfl⟩ ⟨Nat.le_of_ble_eq_true rfl, Nat.le_of_ble_eq_true rfl⟩ hl.1 rfl (Nat.le_of_ble_eq_true rfl) d_N_host_106 (fun E _ _ _ _ hex => hex.elim) (fun rr MM H locs hp hW => ?_)
                obtain ⟨rfl, rfl⟩ := hp
                obtain rfl := Option.some.inj hf
                exact rd_iret C9 hlk hret hW ⟨rfl, rfl⟩ (by decide) (by decide) d_N_host_109
            · have hf := rd_f hf c16
              refine lv_aload_n hx hb d_N_host_79 rfl (lv_at hl 0 rfl) ?_
              refine gf_N_owner C9 hW l_N_40 d_N_host_80 ?_
              refine lv_iload_n hx hb d_N_host_83 rfl (lv_at hl 2 rfl) ?_
              obtain ⟨g27, hf⟩ := rd_g hf
              refine al_m_owner C9 hW rfl g27 d_N_host_84 ?_
              refine lv_iload_n hx hb d_N_host_85 rfl (lv_at hl 1 rfl) ?_
              refine lv_icmp_eq (tgt := 95) hx hb d_N_host_86 (by decide) (fun c28 => ?_) (fun c28 => ?_)
              · have hf := rd_t hf c28
                refine lv_aload_n hx hb d_N_host_95 rfl (lv_at hl 0 rfl) ?_
                refine gf_N_hosts C9 hW l_N_85 d_N_host_96 ?_
                refine lv_bipush (v := 8) hx hb d_N_host_99 (by decide) ?_
                refine lv_icmp_ne (tgt := 110) hx hb d_N_host_101 (by decide) (fun c29 => ?_) (fun c29 => ?_)
                · have hf := rd_f hf c29
                  refine lv_aload_n hx hb d_N_host_110 rfl (lv_at hl 0 rfl) ?_
                  refine gf_N_hostOwner C9 hW l_N_31 d_N_host_111 ?_
                  refine lv_aload_n hx hb d_N_host_114 rfl (lv_at hl 0 rfl) ?_
                  refine gf_N_hosts C9 hW l_N_85 d_N_host_115 ?_
                  refine lv_iload_n hx hb d_N_host_118 rfl (lv_at hl 1 rfl) ?_
                  obtain ⟨g30, hf⟩ := rd_g hf
                  refine as_m_hostOwner C9 hW rfl g30 d_N_host_119 (fun H locs hW => ?_)
                  obtain ⟨M31, hM31, hf⟩ := rd_k_el hf
                  rw [← hM31] at hW
                  refine lv_aload_n hx hb d_N_host_120 rfl (lv_at hl 0 rfl) ?_
                  refine gf_N_under C9 hW l_N_37 d_N_host_121 ?_
                  refine lv_aload_n hx hb d_N_host_124 rfl (lv_at hl 0 rfl) ?_
                  refine gf_N_hosts C9 hW l_N_85 d_N_host_125 ?_
                  refine lv_iload_n hx hb d_N_host_128 rfl (lv_at hl 2 rfl) ?_
                  obtain ⟨g32, hf⟩ := rd_g hf
                  refine as_m_under C9 hW rfl g32 d_N_host_129 (fun H locs hW => ?_)
                  obtain ⟨M33, hM33, hf⟩ := rd_k_el hf
                  rw [← hM33] at hW
                  refine lv_aload_n hx hb d_N_host_130 rfl (lv_at hl 0 rfl) ?_
                  refine gf_N_address C9 hW l_N_34 d_N_host_131 ?_
                  refine lv_aload_n hx hb d_N_host_134 rfl (lv_at hl 0 rfl) ?_
                  refine gf_N_hosts C9 hW l_N_85 d_N_host_135 ?_
                  refine lv_iload_n hx hb d_N_host_138 rfl (lv_at hl 3 rfl) ?_
                  obtain ⟨g34, hf⟩ := rd_g hf
                  refine as_m_address C9 hW rfl g34 d_N_host_139 (fun H locs hW => ?_)
                  obtain ⟨M35, hM35, hf⟩ := rd_k_el hf
                  rw [← hM35] at hW
                  refine lv_aload_n hx hb d_N_host_140 rfl (lv_at hl 0 rfl) ?_
                  refine lv_dup hx hb d_N_host_141 rfl ?_
                  refine gf_N_hosts C9 hW l_N_85 d_N_host_142 ?_
                  refine lv_iconst (v := 1) hx hb d_N_host_145 (by decide) ?_
                  refine lv_iadd hx hb d_N_host_146 ?_
                  refine pf_N_hosts C9 hW l_N_85 d_N_host_147 (fun H locs hW => ?_)
                  obtain ⟨M36, hM36, hf⟩ := rd_k_el hf
                  rw [← hM36] at hW
                  refine lv_aload_n hx hb d_N_host_150 rfl (lv_at hl 0 rfl) ?_
                  refine lv_aload_n hx hb d_N_host_151 rfl (lv_at hl 0 rfl) ?_
                  refine gf_N_hosts C9 hW l_N_85 d_N_host_152 ?_
                  refine lv_iconst (v := 1) hx hb d_N_host_155 (by decide) ?_
                  refine lv_isub hx hb d_N_host_156 ?_
                  obtain ⟨r37, qr37, hf⟩ := rd_bind hf
                  refine rd_callV (As := [.int (((M36 0).1 9) - 1)]) (rest := []) rd_gd C9 hTh hW (c_N_give hls (((M36 0).1 9) - 1) qr37) kc_N_give ki_N_give ks_N_give l_N_126 rfl (lt_N) (ce_N) rfl ⟨Nat.le_of_ble_eq_true rfl, Nat.le_of_ble_eq_true rfl⟩ ⟨Nat.le_of_ble_eq_true rfl, Nat.le_of_ble_eq_true rfl⟩ hl.1 rfl (Nat.le_of_ble_eq_true rfl) d_N_host_157 (fun E _ _ _ _ hex => hex.elim) (fun rr MM H locs hp hW => ?_)
                  obtain ⟨rfl, rfl⟩ := hp
                  obtain rfl := Option.some.inj hf
                  exact rd_iret C9 hlk hret hW ⟨rfl, rfl⟩ (by decide) (by decide) d_N_host_160
                · have hf := rd_t hf c29
                  refine lv_aload_n hx hb d_N_host_104 rfl (lv_at hl 0 rfl) ?_
                  refine lv_iconst (v := 4) hx hb d_N_host_105 (by decide) ?_
                  obtain ⟨r38, qr38, hf⟩ := rd_bind hf
                  refine rd_callV (As := [.int 4]) (rest := []) rd_gd C9 hTh hW (c_N_fail hls 4 qr38) kc_N_fail ki_N_fail ks_N_fail l_N_122 rfl (lt_N) (ce_N) rfl ⟨Nat.le_of_ble_eq_true rfl, Nat.le_of_ble_eq_true rfl⟩ ⟨Nat.le_of_ble_eq_true rfl, Nat.le_of_ble_eq_true rfl⟩ hl.1 rfl (Nat.le_of_ble_eq_true rfl) d_N_host_106 (fun E _ _ _ _ hex => hex.elim) (fun rr MM H locs hp hW => ?_)
                  obtain ⟨rfl, rfl⟩ := hp
                  obtain rfl := Option.some.inj hf
                  exact rd_iret C9 hlk hret hW ⟨rfl, rfl⟩ (by decide) (by decide) d_N_host_109
              · have hf := rd_f hf c28
                refine lv_aload_n hx hb d_N_host_89 rfl (lv_at hl 0 rfl) ?_
                refine lv_iconst (v := 3) hx hb d_N_host_90 (by decide) ?_
                obtain ⟨r39, qr39, hf⟩ := rd_bind hf
                refine rd_callV (As := [.int 3]) (rest := []) rd_gd C9 hTh hW (c_N_fail hls 3 qr39) kc_N_fail ki_N_fail ks_N_fail l_N_122 rfl (lt_N) (ce_N) rfl ⟨Nat.le_of_ble_eq_true rfl, Nat.le_of_ble_eq_true rfl⟩ ⟨Nat.le_of_ble_eq_true rfl, Nat.le_of_ble_eq_true rfl⟩ hl.1 rfl (Nat.le_of_ble_eq_true rfl) d_N_host_91 (fun E _ _ _ _ hex => hex.elim) (fun rr MM H locs hp hW => ?_)
                obtain ⟨rfl, rfl⟩ := hp
                obtain rfl := Option.some.inj hf
                exact rd_iret C9 hlk hret hW ⟨rfl, rfl⟩ (by decide) (by decide) d_N_host_94
          · have hf := rd_f hf c15
            refine lv_aload_n hx hb d_N_host_61 rfl (lv_at hl 0 rfl) ?_
            refine lv_iload_n hx hb d_N_host_62 rfl (lv_at hl 2 rfl) ?_
            obtain ⟨r40, qr40, hf⟩ := rd_bind hf
            refine rd_callV (As := [.int p2]) (rest := []) rd_gd C9 hTh hW (c_N_noDomain hls p2 qr40) kc_N_noDomain ki_N_noDomain ks_N_noDomain l_N_133 rfl (lt_N) (ce_N) rfl ⟨Nat.le_of_ble_eq_true rfl, Nat.le_of_ble_eq_true rfl⟩ ⟨Nat.le_of_ble_eq_true rfl, Nat.le_of_ble_eq_true rfl⟩ hl.1 rfl (Nat.le_of_ble_eq_true rfl) d_N_host_63 (fun E _ _ _ _ hex => hex.elim) (fun rr MM H locs hp hW => ?_)
            obtain ⟨rfl, rfl⟩ := hp
            refine lv_if_eq (tgt := 75) hx hb d_N_host_66 (by decide) (fun c41 => ?_) (fun c41 => ?_)
            · have hf := rd_t hf c41
              refine lv_iload_n hx hb d_N_host_75 rfl (lv_at hl 2 rfl) ?_
              refine lv_if_lt (tgt := 95) hx hb d_N_host_76 (by decide) (fun c42 => ?_) (fun c42 => ?_)
              · have hf := rd_t hf c42
                refine lv_aload_n hx hb d_N_host_95 rfl (lv_at hl 0 rfl) ?_
                refine gf_N_hosts C9 hW l_N_85 d_N_host_96 ?_
                refine lv_bipush (v := 8) hx hb d_N_host_99 (by decide) ?_
                refine lv_icmp_ne (tgt := 110) hx hb d_N_host_101 (by decide) (fun c43 => ?_) (fun c43 => ?_)
                · have hf := rd_f hf c43
                  refine lv_aload_n hx hb d_N_host_110 rfl (lv_at hl 0 rfl) ?_
                  refine gf_N_hostOwner C9 hW l_N_31 d_N_host_111 ?_
                  refine lv_aload_n hx hb d_N_host_114 rfl (lv_at hl 0 rfl) ?_
                  refine gf_N_hosts C9 hW l_N_85 d_N_host_115 ?_
                  refine lv_iload_n hx hb d_N_host_118 rfl (lv_at hl 1 rfl) ?_
                  obtain ⟨g44, hf⟩ := rd_g hf
                  refine as_m_hostOwner C9 hW rfl g44 d_N_host_119 (fun H locs hW => ?_)
                  obtain ⟨M45, hM45, hf⟩ := rd_k_el hf
                  rw [← hM45] at hW
                  refine lv_aload_n hx hb d_N_host_120 rfl (lv_at hl 0 rfl) ?_
                  refine gf_N_under C9 hW l_N_37 d_N_host_121 ?_
                  refine lv_aload_n hx hb d_N_host_124 rfl (lv_at hl 0 rfl) ?_
                  refine gf_N_hosts C9 hW l_N_85 d_N_host_125 ?_
                  refine lv_iload_n hx hb d_N_host_128 rfl (lv_at hl 2 rfl) ?_
                  obtain ⟨g46, hf⟩ := rd_g hf
                  refine as_m_under C9 hW rfl g46 d_N_host_129 (fun H locs hW => ?_)
                  obtain ⟨M47, hM47, hf⟩ := rd_k_el hf
                  rw [← hM47] at hW
                  refine lv_aload_n hx hb d_N_host_130 rfl (lv_at hl 0 rfl) ?_
                  refine gf_N_address C9 hW l_N_34 d_N_host_131 ?_
                  refine lv_aload_n hx hb d_N_host_134 rfl (lv_at hl 0 rfl) ?_
                  refine gf_N_hosts C9 hW l_N_85 d_N_host_135 ?_
                  refine lv_iload_n hx hb d_N_host_138 rfl (lv_at hl 3 rfl) ?_
                  obtain ⟨g48, hf⟩ := rd_g hf
                  refine as_m_address C9 hW rfl g48 d_N_host_139 (fun H locs hW => ?_)
                  obtain ⟨M49, hM49, hf⟩ := rd_k_el hf
                  rw [← hM49] at hW
                  refine lv_aload_n hx hb d_N_host_140 rfl (lv_at hl 0 rfl) ?_
                  refine lv_dup hx hb d_N_host_141 rfl ?_
                  refine gf_N_hosts C9 hW l_N_85 d_N_host_142 ?_
                  refine lv_iconst (v := 1) hx hb d_N_host_145 (by decide) ?_
                  refine lv_iadd hx hb d_N_host_146 ?_
                  refine pf_N_hosts C9 hW l_N_85 d_N_host_147 (fun H locs hW => ?_)
                  obtain ⟨M50, hM50, hf⟩ := rd_k_el hf
                  rw [← hM50] at hW
                  refine lv_aload_n hx hb d_N_host_150 rfl (lv_at hl 0 rfl) ?_
                  refine lv_aload_n hx hb d_N_host_151 rfl (lv_at hl 0 rfl) ?_
                  refine gf_N_hosts C9 hW l_N_85 d_N_host_152 ?_
                  refine lv_iconst (v := 1) hx hb d_N_host_155 (by decide) ?_
                  refine lv_isub hx hb d_N_host_156 ?_
                  obtain ⟨r51, qr51, hf⟩ := rd_bind hf
                  refine rd_callV (As := [.int (((M50 0).1 9) - 1)]) (rest := []) rd_gd C9 hTh hW (c_N_give hls (((M50 0).1 9) - 1) qr51) kc_N_give ki_N_give ks_N_give l_N_126 rfl (lt_N) (ce_N) rfl ⟨Nat.le_of_ble_eq_true rfl, Nat.le_of_ble_eq_true rfl⟩ ⟨Nat.le_of_ble_eq_true rfl, Nat.le_of_ble_eq_true rfl⟩ hl.1 rfl (Nat.le_of_ble_eq_true rfl) d_N_host_157 (fun E _ _ _ _ hex => hex.elim) (fun rr MM H locs hp hW => ?_)
                  obtain ⟨rfl, rfl⟩ := hp
                  obtain rfl := Option.some.inj hf
                  exact rd_iret C9 hlk hret hW ⟨rfl, rfl⟩ (by decide) (by decide) d_N_host_160
                · have hf := rd_t hf c43
                  refine lv_aload_n hx hb d_N_host_104 rfl (lv_at hl 0 rfl) ?_
                  refine lv_iconst (v := 4) hx hb d_N_host_105 (by decide) ?_
                  obtain ⟨r52, qr52, hf⟩ := rd_bind hf
                  refine rd_callV (As := [.int 4]) (rest := []) rd_gd C9 hTh hW (c_N_fail hls 4 qr52) kc_N_fail ki_N_fail ks_N_fail l_N_122 rfl (lt_N) (ce_N) rfl ⟨Nat.le_of_ble_eq_true rfl, Nat.le_of_ble_eq_true rfl⟩ ⟨Nat.le_of_ble_eq_true rfl, Nat.le_of_ble_eq_true rfl⟩ hl.1 rfl (Nat.le_of_ble_eq_true rfl) d_N_host_106 (fun E _ _ _ _ hex => hex.elim) (fun rr MM H locs hp hW => ?_)
                  obtain ⟨rfl, rfl⟩ := hp
                  obtain rfl := Option.some.inj hf
                  exact rd_iret C9 hlk hret hW ⟨rfl, rfl⟩ (by decide) (by decide) d_N_host_109
              · have hf := rd_f hf c42
                refine lv_aload_n hx hb d_N_host_79 rfl (lv_at hl 0 rfl) ?_
                refine gf_N_owner C9 hW l_N_40 d_N_host_80 ?_
                refine lv_iload_n hx hb d_N_host_83 rfl (lv_at hl 2 rfl) ?_
                obtain ⟨g53, hf⟩ := rd_g hf
                refine al_m_owner C9 hW rfl g53 d_N_host_84 ?_
                refine lv_iload_n hx hb d_N_host_85 rfl (lv_at hl 1 rfl) ?_
                refine lv_icmp_eq (tgt := 95) hx hb d_N_host_86 (by decide) (fun c54 => ?_) (fun c54 => ?_)
                · have hf := rd_t hf c54
                  refine lv_aload_n hx hb d_N_host_95 rfl (lv_at hl 0 rfl) ?_
                  refine gf_N_hosts C9 hW l_N_85 d_N_host_96 ?_
                  refine lv_bipush (v := 8) hx hb d_N_host_99 (by decide) ?_
                  refine lv_icmp_ne (tgt := 110) hx hb d_N_host_101 (by decide) (fun c55 => ?_) (fun c55 => ?_)
                  · have hf := rd_f hf c55
                    refine lv_aload_n hx hb d_N_host_110 rfl (lv_at hl 0 rfl) ?_
                    refine gf_N_hostOwner C9 hW l_N_31 d_N_host_111 ?_
                    refine lv_aload_n hx hb d_N_host_114 rfl (lv_at hl 0 rfl) ?_
                    refine gf_N_hosts C9 hW l_N_85 d_N_host_115 ?_
                    refine lv_iload_n hx hb d_N_host_118 rfl (lv_at hl 1 rfl) ?_
                    obtain ⟨g56, hf⟩ := rd_g hf
                    refine as_m_hostOwner C9 hW rfl g56 d_N_host_119 (fun H locs hW => ?_)
                    obtain ⟨M57, hM57, hf⟩ := rd_k_el hf
                    rw [← hM57] at hW
                    refine lv_aload_n hx hb d_N_host_120 rfl (lv_at hl 0 rfl) ?_
                    refine gf_N_under C9 hW l_N_37 d_N_host_121 ?_
                    refine lv_aload_n hx hb d_N_host_124 rfl (lv_at hl 0 rfl) ?_
                    refine gf_N_hosts C9 hW l_N_85 d_N_host_125 ?_
                    refine lv_iload_n hx hb d_N_host_128 rfl (lv_at hl 2 rfl) ?_
                    obtain ⟨g58, hf⟩ := rd_g hf
                    refine as_m_under C9 hW rfl g58 d_N_host_129 (fun H locs hW => ?_)
                    obtain ⟨M59, hM59, hf⟩ := rd_k_el hf
                    rw [← hM59] at hW
                    refine lv_aload_n hx hb d_N_host_130 rfl (lv_at hl 0 rfl) ?_
                    refine gf_N_address C9 hW l_N_34 d_N_host_131 ?_
                    refine lv_aload_n hx hb d_N_host_134 rfl (lv_at hl 0 rfl) ?_
                    refine gf_N_hosts C9 hW l_N_85 d_N_host_135 ?_
                    refine lv_iload_n hx hb d_N_host_138 rfl (lv_at hl 3 rfl) ?_
                    obtain ⟨g60, hf⟩ := rd_g hf
                    refine as_m_address C9 hW rfl g60 d_N_host_139 (fun H locs hW => ?_)
                    obtain ⟨M61, hM61, hf⟩ := rd_k_el hf
                    rw [← hM61] at hW
                    refine lv_aload_n hx hb d_N_host_140 rfl (lv_at hl 0 rfl) ?_
                    refine lv_dup hx hb d_N_host_141 rfl ?_
                    refine gf_N_hosts C9 hW l_N_85 d_N_host_142 ?_
                    refine lv_iconst (v := 1) hx hb d_N_host_145 (by decide) ?_
                    refine lv_iadd hx hb d_N_host_146 ?_
                    refine pf_N_hosts C9 hW l_N_85 d_N_host_147 (fun H locs hW => ?_)
                    obtain ⟨M62, hM62, hf⟩ := rd_k_el hf
                    rw [← hM62] at hW
                    refine lv_aload_n hx hb d_N_host_150 rfl (lv_at hl 0 rfl) ?_
                    refine lv_aload_n hx hb d_N_host_151 rfl (lv_at hl 0 rfl) ?_
                    refine gf_N_hosts C9 hW l_N_85 d_N_host_152 ?_
                    refine lv_iconst (v := 1) hx hb d_N_host_155 (by decide) ?_
                    refine lv_isub hx hb d_N_host_156 ?_
                    obtain ⟨r63, qr63, hf⟩ := rd_bind hf
                    refine rd_callV (As := [.int (((M62 0).1 9) - 1)]) (rest := []) rd_gd C9 hTh hW (c_N_give hls (((M62 0).1 9) - 1) qr63) kc_N_give ki_N_give ks_N_give l_N_126 rfl (lt_N) (ce_N) rfl ⟨Nat.le_of_ble_eq_true rfl, Nat.le_of_ble_eq_true rfl⟩ ⟨Nat.le_of_ble_eq_true rfl, Nat.le_of_ble_eq_true rfl⟩ hl.1 rfl (Nat.le_of_ble_eq_true rfl) d_N_host_157 (fun E _ _ _ _ hex => hex.elim) (fun rr MM H locs hp hW => ?_)
                    obtain ⟨rfl, rfl⟩ := hp
                    obtain rfl := Option.some.inj hf
                    exact rd_iret C9 hlk hret hW ⟨rfl, rfl⟩ (by decide) (by decide) d_N_host_160
                  · have hf := rd_t hf c55
                    refine lv_aload_n hx hb d_N_host_104 rfl (lv_at hl 0 rfl) ?_
                    refine lv_iconst (v := 4) hx hb d_N_host_105 (by decide) ?_
                    obtain ⟨r64, qr64, hf⟩ := rd_bind hf
                    refine rd_callV (As := [.int 4]) (rest := []) rd_gd C9 hTh hW (c_N_fail hls 4 qr64) kc_N_fail ki_N_fail ks_N_fail l_N_122 rfl (lt_N) (ce_N) rfl ⟨Nat.le_of_ble_eq_true rfl, Nat.le_of_ble_eq_true rfl⟩ ⟨Nat.le_of_ble_eq_true rfl, Nat.le_of_ble_eq_true rfl⟩ hl.1 rfl (Nat.le_of_ble_eq_true rfl) d_N_host_106 (fun E _ _ _ _ hex => hex.elim) (fun rr MM H locs hp hW => ?_)
                    obtain ⟨rfl, rfl⟩ := hp
                    obtain rfl := Option.some.inj hf
                    exact rd_iret C9 hlk hret hW ⟨rfl, rfl⟩ (by decide) (by decide) d_N_host_109
                · have hf := rd_f hf c54
                  refine lv_aload_n hx hb d_N_host_89 rfl (lv_at hl 0 rfl) ?_
                  refine lv_iconst (v := 3) hx hb d_N_host_90 (by decide) ?_
                  obtain ⟨r65, qr65, hf⟩ := rd_bind hf
                  refine rd_callV (As := [.int 3]) (rest := []) rd_gd C9 hTh hW (c_N_fail hls 3 qr65) kc_N_fail ki_N_fail ks_N_fail l_N_122 rfl (lt_N) (ce_N) rfl ⟨Nat.le_of_ble_eq_true rfl, Nat.le_of_ble_eq_true rfl⟩ ⟨Nat.le_of_ble_eq_true rfl, Nat.le_of_ble_eq_true rfl⟩ hl.1 rfl (Nat.le_of_ble_eq_true rfl) d_N_host_91 (fun E _ _ _ _ hex => hex.elim) (fun rr MM H locs hp hW => ?_)
                  obtain ⟨rfl, rfl⟩ := hp
                  obtain rfl := Option.some.inj hf
                  exact rd_iret C9 hlk hret hW ⟨rfl, rfl⟩ (by decide) (by decide) d_N_host_94
            · have hf := rd_f hf c41
              refine lv_aload_n hx hb d_N_host_69 rfl (lv_at hl 0 rfl) ?_
              refine lv_iconst (v := 2) hx hb d_N_host_70 (by decide) ?_
              obtain ⟨r66, qr66, hf⟩ := rd_bind hf
              refine rd_callV (As := [.int 2]) (rest := []) rd_gd C9 hTh hW (c_N_fail hls 2 qr66) kc_N_fail ki_N_fail ks_N_fail l_N_122 rfl (lt_N) (ce_N) rfl ⟨Nat.le_of_ble_eq_true rfl, Nat.le_of_ble_eq_true rfl⟩ ⟨Nat.le_of_ble_eq_true rfl, Nat.le_of_ble_eq_true rfl⟩ hl.1 rfl (Nat.le_of_ble_eq_true rfl) d_N_host_71 (fun E _ _ _ _ hex => hex.elim) (fun rr MM H locs hp hW => ?_)
              obtain ⟨rfl, rfl⟩ := hp
              obtain rfl := Option.some.inj hf
              exact rd_iret C9 hlk hret hW ⟨rfl, rfl⟩ (by decide) (by decide) d_N_host_74
        · have hf := rd_f hf c14
          refine lv_aload_n hx hb d_N_host_51 rfl (lv_at hl 0 rfl) ?_
          refine lv_iconst (v := 1) hx hb d_N_host_52 (by decide) ?_
          obtain ⟨r67, qr67, hf⟩ := rd_bind hf
          refine rd_callV (As := [.int 1]) (rest := []) rd_gd C9 hTh hW (c_N_fail hls 1 qr67) kc_N_fail ki_N_fail ks_N_fail l_N_122 rfl (lt_N) (ce_N) rfl ⟨Nat.le_of_ble_eq_true rfl, Nat.le_of_ble_eq_true rfl⟩ ⟨Nat.le_of_ble_eq_true rfl, Nat.le_of_ble_eq_true rfl⟩ hl.1 rfl (Nat.le_of_ble_eq_true rfl) d_N_host_53 (fun E _ _ _ _ hex => hex.elim) (fun rr MM H locs hp hW => ?_)
          obtain ⟨rfl, rfl⟩ := hp
          obtain rfl := Option.some.inj hf
          exact rd_iret C9 hlk hret hW ⟨rfl, rfl⟩ (by decide) (by decide) d_N_host_56
def lb_N_left_4 (M : rd_M) (q1 : Int32) (Kf : Int32 → Int32 → Option (Int32)) (rec : Int32 → Int32 → Option (Int32)) (v4_3 : Int32) (v4_2 : Int32) : Option (Int32) :=
  if 8 ≤ v4_3 then
    Kf v4_3 v4_2
  else
    (f_N_noThing M q1 v4_3).bind fun r2 =>
    if r2 = 0 then
      rec (v4_3 + 1) (v4_2 + 1)
    else
      rec (v4_3 + 1) v4_2
def f_N_left (M : rd_M) (p1 : Int32) : Option (Int32) :=
  rd_it (fun _ _ => none) (lb_N_left_4 M p1 (fun w4_3 w4_2 =>
    some w4_2)) 64 0 0
set_option maxRecDepth 100000 in
set_option maxHeartbeats 4000000 in
theorem c_N_left {l : Launch} (hls : l.stackTraces = false) {D : va_G} {Ka : Nat → ClassId} {ad : Nat → Nat} {M : rd_M} (p1 : Int32)  {o : Int32} (hf : f_N_left M p1 = some o) :
    rd_Met l y_N_left b_N_left 4 (some .int) (1, 22, 0, 0) rd_T rd_ss D rd_cl (rd_ty Ka) (rm_L Ka) ad M [.ref (ad 0), .int p1] (fun r M1 => r = some (.int o) ∧ M = M1) (fun _ => False) := by
  refine rd_body (by decide) (Nat.le_of_ble_eq_true rfl) ?_
  intro p e s m below meth c C9 hlk hret hnt hTh hW ls hl
  have hx := C9.1.1
  have hb := C9.1.2.1
  have hl : lv_has ls 4 [(0, .ref (ad 0)), (1, .int p1)] := hl
  unfold f_N_left at hf
  refine lv_iconst (v := 0) hx hb d_N_left_0 (by decide) ?_
  refine lv_istore_n (lv' := [(2, .int 0), (0, .ref (ad 0)), (1, .int p1)]) hx hb d_N_left_1 rfl hl (by decide) rfl (fun ls hl => ?_)
  refine lv_iconst (v := 0) hx hb d_N_left_2 (by decide) ?_
  refine lv_istore_n (lv' := [(3, .int 0), (2, .int 0), (0, .ref (ad 0)), (1, .int p1)]) hx hb d_N_left_3 rfl hl (by decide) rfl (fun ls hl => ?_)
  have loop_4 : ∀ (Kf : Int32 → Int32 → Option (Int32)) (hk_4 : ∀ (w4_3 : Int32) (w4_2 : Int32) (H : Heap) (locs : List Loc) (ls : Array Slot), Kf w4_3 w4_2 = some o → rd_W D rd_cl (rm_L Ka) ad (rd_A (rm_L Ka) ad s.heap.size) s.heap M H locs → lv_has ls 4 [(3, .int w4_3), (2, .int w4_2), (0, .ref (ad 0)), (1, .int p1)] → W p l e { frames := 1, cells := 0, slots := 0, locals := 22 } s m [.ref (ad 0), .int p1].toArray below meth c H locs 0 0 (rd_Z below (rd_O D rd_cl (rm_L Ka) ad M (rd_A (rm_L Ka) ad s.heap.size) 0 0 (fun r M1 => r = some (.int o) ∧ M = M1) (fun _ => False)) s) (F0 m 28 ls [])) (fu : Nat) (v4_3 : Int32) (v4_2 : Int32) (H : Heap) (locs : List Loc) (ls : Array Slot), rd_it (fun _ _ => none) (lb_N_left_4 M p1 Kf) fu v4_3 v4_2 = some o → rd_W D rd_cl (rm_L Ka) ad (rd_A (rm_L Ka) ad s.heap.size) s.heap M H locs → lv_has ls 4 [(3, .int v4_3), (2, .int v4_2), (0, .ref (ad 0)), (1, .int p1)] → W p l e { frames := 1, cells := 0, slots := 0, locals := 22 } s m [.ref (ad 0), .int p1].toArray below meth c H locs 0 0 (rd_Z below (rd_O D rd_cl (rm_L Ka) ad M (rd_A (rm_L Ka) ad s.heap.size) 0 0 (fun r M1 => r = some (.int o) ∧ M = M1) (fun _ => False)) s) (F0 m 4 ls []) := by
    intro Kf hk_4 fu
    induction fu with
    | zero => intro _ _ H locs ls hf; exact (rd_nf hf).elim
    | succ fu ih_4 =>
      intro v4_3 v4_2 H locs ls hf hW hl
      rw [rd_it_s] at hf
      unfold lb_N_left_4 at hf
      refine lv_iload_n hx hb d_N_left_4 rfl (lv_at hl 0 rfl) ?_
      refine lv_bipush (v := 8) hx hb d_N_left_5 (by decide) ?_
      refine lv_icmp_ge (tgt := 28) hx hb d_N_left_7 (by decide) (fun c4 => ?_) (fun c4 => ?_)
      · have hf := rd_t hf c4
        exact hk_4 _ _ _ _ _ hf hW (lv_sub hl [0, 1, 2, 3] rfl)
      · have hf := rd_f hf c4
        refine lv_aload_n hx hb d_N_left_10 rfl (lv_at hl 2 rfl) ?_
        refine lv_iload_n hx hb d_N_left_11 rfl (lv_at hl 3 rfl) ?_
        refine lv_iload_n hx hb d_N_left_12 rfl (lv_at hl 0 rfl) ?_
        obtain ⟨r5, qr5, hf⟩ := rd_bind hf
        refine rd_callV (As := [.int p1, .int v4_3]) (rest := []) rd_gd C9 hTh hW (c_N_noThing hls p1 v4_3 qr5) kc_N_noThing ki_N_noThing ks_N_noThing l_N_137 rfl (lt_N) (ce_N) rfl ⟨Nat.le_of_ble_eq_true rfl, Nat.le_of_ble_eq_true rfl⟩ ⟨Nat.le_of_ble_eq_true rfl, Nat.le_of_ble_eq_true rfl⟩ hl.1 rfl (Nat.le_of_ble_eq_true rfl) d_N_left_13 (fun E _ _ _ _ hex => hex.elim) (fun rr MM H locs hp hW => ?_)
        obtain ⟨rfl, rfl⟩ := hp
        refine lv_if_ne (tgt := 22) hx hb d_N_left_16 (by decide) (fun c6 => ?_) (fun c6 => ?_)
        · have hf := rd_f hf c6
          refine lv_iinc (v := v4_3 + 1) (lv' := [(3, .int (v4_3 + 1)), (2, .int v4_2), (0, .ref (ad 0)), (1, .int p1)]) hx hb d_N_left_22 hl (k := 0) rfl rfl (by decide) rfl (fun ls hl => ?_)
          refine lv_goto (tgt := 4) hx hb d_N_left_25 (by decide) ?_
          exact ih_4 _ _ _ _ _ hf hW (lv_sub hl [0, 1, 2, 3] rfl)
        · have hf := rd_t hf c6
          refine lv_iinc (v := v4_2 + 1) (lv' := [(2, .int (v4_2 + 1)), (3, .int v4_3), (0, .ref (ad 0)), (1, .int p1)]) hx hb d_N_left_19 hl (k := 1) rfl rfl (by decide) rfl (fun ls hl => ?_)
          refine lv_iinc (v := v4_3 + 1) (lv' := [(3, .int (v4_3 + 1)), (2, .int (v4_2 + 1)), (0, .ref (ad 0)), (1, .int p1)]) hx hb d_N_left_22 hl (k := 1) rfl rfl (by decide) rfl (fun ls hl => ?_)
          refine lv_goto (tgt := 4) hx hb d_N_left_25 (by decide) ?_
          exact ih_4 _ _ _ _ _ hf hW (lv_sub hl [0, 1, 2, 3] rfl)
  refine loop_4 _ ?_ 64 _ _ _ _ _ hf hW (lv_sub hl [0, 1, 2, 3] rfl)
  intro w4_3 w4_2 H locs ls hf hW hl
  refine lv_iload_n hx hb d_N_left_28 rfl (lv_at hl 1 rfl) ?_
  obtain rfl := Option.some.inj hf
  exact rd_iret C9 hlk hret hW ⟨rfl, rfl⟩ (by decide) (by decide) d_N_left_29
def f_N_remove (M : rd_M) (p1 : Int32) (p2 : Int32) (p3 : Int32) : Option (Int32 × rd_M) :=
  (f_N_in M p1 0 3).bind fun r1 =>
  if r1 = 0 then
    (f_N_fail M 1).bind fun r3 =>
    some (r3.1, r3.2)
  else
    (f_N_in M p2 0 1).bind fun r4 =>
    if r4 = 0 then
      (f_N_fail M 1).bind fun r40 =>
      some (r40.1, r40.2)
    else
      (f_N_noThing M p2 p3).bind fun r6 =>
      if r6 = 0 then
        if p2 = 0 then
          if rd_in p3 8 then
          if ((M 6).1 p3.toNatClampNeg) = p1 then
            (f_N_users M p2 p3).bind fun r26 =>
            if r26 ≤ 0 then
              if p2 = 0 then
                if rd_in p3 8 then
                rd_k (rd_iU M 6 p3.toNatClampNeg (-1)) fun M34 =>
                (f_N_left M34 p2).bind fun r35 =>
                (f_N_give M34 r35).bind fun r36 =>
                some (r36.1, r36.2)
                else none
              else
                if rd_in p3 8 then
                rd_k (rd_iU M 7 p3.toNatClampNeg (-1)) fun M30 =>
                (f_N_left M30 p2).bind fun r31 =>
                (f_N_give M30 r31).bind fun r32 =>
                some (r32.1, r32.2)
                else none
            else
              (f_N_fail M 4).bind fun r37 =>
              some (r37.1, r37.2)
          else
            (f_N_fail M 3).bind fun r38 =>
            some (r38.1, r38.2)
          else none
        else
          if rd_in p3 8 then
          if ((M 7).1 p3.toNatClampNeg) = p1 then
            (f_N_users M p2 p3).bind fun r11 =>
            if r11 ≤ 0 then
              if p2 = 0 then
                if rd_in p3 8 then
                rd_k (rd_iU M 6 p3.toNatClampNeg (-1)) fun M19 =>
                (f_N_left M19 p2).bind fun r20 =>
                (f_N_give M19 r20).bind fun r21 =>
                some (r21.1, r21.2)
                else none
              else
                if rd_in p3 8 then
                rd_k (rd_iU M 7 p3.toNatClampNeg (-1)) fun M15 =>
                (f_N_left M15 p2).bind fun r16 =>
                (f_N_give M15 r16).bind fun r17 =>
                some (r17.1, r17.2)
                else none
            else
              (f_N_fail M 4).bind fun r22 =>
              some (r22.1, r22.2)
          else
            (f_N_fail M 3).bind fun r23 =>
            some (r23.1, r23.2)
          else none
      else
        (f_N_fail M 2).bind fun r39 =>
        some (r39.1, r39.2)
set_option maxRecDepth 100000 in
set_option maxHeartbeats 4000000 in
theorem c_N_remove {l : Launch} (hls : l.stackTraces = false) {D : va_G} {Ka : Nat → ClassId} {ad : Nat → Nat} {M : rd_M} (p1 : Int32) (p2 : Int32) (p3 : Int32)  {o : Int32 × rd_M} (hf : f_N_remove M p1 p2 p3 = some o) :
    rd_Met l y_N_remove b_N_remove 4 (some .int) (2, 48, 0, 0) rd_T rd_ss D rd_cl (rd_ty Ka) (rm_L Ka) ad M [.ref (ad 0), .int p1, .int p2, .int p3] (fun r M1 => r = some (.int o.1) ∧ o.2 = M1) (fun _ => False) := by
  refine rd_body (by decide) (Nat.le_of_ble_eq_true rfl) ?_
  intro p e s m below meth c C9 hlk hret hnt hTh hW ls hl
  have hx := C9.1.1
  have hb := C9.1.2.1
  have hl : lv_has ls 4 [(0, .ref (ad 0)), (1, .int p1), (2, .int p2), (3, .int p3)] := hl
  unfold f_N_remove at hf
  refine lv_iload_n hx hb d_N_remove_0 rfl (lv_at hl 1 rfl) ?_
  refine lv_iconst (v := 0) hx hb d_N_remove_1 (by decide) ?_
  refine lv_iconst (v := 3) hx hb d_N_remove_2 (by decide) ?_
  obtain ⟨r1, qr1, hf⟩ := rd_bind hf
  refine rd_callS (As := [.int p1, .int 0, .int 3]) (rest := []) rd_gd C9 hTh hW (c_N_in hls p1 0 3 qr1) kc_N_in ki_N_in l_N_116 rfl ⟨Nat.le_of_ble_eq_true rfl, Nat.le_of_ble_eq_true rfl⟩ ⟨Nat.le_of_ble_eq_true rfl, Nat.le_of_ble_eq_true rfl⟩ hl.1 rfl (Nat.le_of_ble_eq_true rfl) d_N_remove_3 (fun E _ _ _ _ hex => hex.elim) (fun rr MM H locs hp hW => ?_)
  obtain ⟨rfl, rfl⟩ := hp
  refine lv_if_eq (tgt := 18) hx hb d_N_remove_6 (by decide) (fun c2 => ?_) (fun c2 => ?_)
  · have hf := rd_t hf c2
    refine lv_aload_n hx hb d_N_remove_18 rfl (lv_at hl 0 rfl) ?_
    refine lv_iconst (v := 1) hx hb d_N_remove_19 (by decide) ?_
    obtain ⟨r3, qr3, hf⟩ := rd_bind hf
    refine rd_callV (As := [.int 1]) (rest := []) rd_gd C9 hTh hW (c_N_fail hls 1 qr3) kc_N_fail ki_N_fail ks_N_fail l_N_122 rfl (lt_N) (ce_N) rfl ⟨Nat.le_of_ble_eq_true rfl, Nat.le_of_ble_eq_true rfl⟩ ⟨Nat.le_of_ble_eq_true rfl, Nat.le_of_ble_eq_true rfl⟩ hl.1 rfl (Nat.le_of_ble_eq_true rfl) d_N_remove_20 (fun E _ _ _ _ hex => hex.elim) (fun rr MM H locs hp hW => ?_)
    obtain ⟨rfl, rfl⟩ := hp
    obtain rfl := Option.some.inj hf
    exact rd_iret C9 hlk hret hW ⟨rfl, rfl⟩ (by decide) (by decide) d_N_remove_23
  · have hf := rd_f hf c2
    refine lv_iload_n hx hb d_N_remove_9 rfl (lv_at hl 2 rfl) ?_
    refine lv_iconst (v := 0) hx hb d_N_remove_10 (by decide) ?_
    refine lv_iconst (v := 1) hx hb d_N_remove_11 (by decide) ?_
    obtain ⟨r4, qr4, hf⟩ := rd_bind hf
    refine rd_callS (As := [.int p2, .int 0, .int 1]) (rest := []) rd_gd C9 hTh hW (c_N_in hls p2 0 1 qr4) kc_N_in ki_N_in l_N_116 rfl ⟨Nat.le_of_ble_eq_true rfl, Nat.le_of_ble_eq_true rfl⟩ ⟨Nat.le_of_ble_eq_true rfl, Nat.le_of_ble_eq_true rfl⟩ hl.1 rfl (Nat.le_of_ble_eq_true rfl) d_N_remove_12 (fun E _ _ _ _ hex => hex.elim) (fun rr MM H locs hp hW => ?_)
    obtain ⟨rfl, rfl⟩ := hp
    refine lv_if_ne (tgt := 24) hx hb d_N_remove_15 (by decide) (fun c5 => ?_) (fun c5 => ?_)
    · have hf := rd_f hf c5
      refine lv_aload_n hx hb d_N_remove_24 rfl (lv_at hl 0 rfl) ?_
      refine lv_iload_n hx hb d_N_remove_25 rfl (lv_at hl 2 rfl) ?_
      refine lv_iload_n hx hb d_N_remove_26 rfl (lv_at hl 3 rfl) ?_
      obtain ⟨r6, qr6, hf⟩ := rd_bind hf
      refine rd_callV (As := [.int p2, .int p3]) (rest := []) rd_gd C9 hTh hW (c_N_noThing hls p2 p3 qr6) kc_N_noThing ki_N_noThing ks_N_noThing l_N_137 rfl (lt_N) (ce_N) rfl ⟨Nat.le_of_ble_eq_true rfl, Nat.le_of_ble_eq_true rfl⟩ ⟨Nat.le_of_ble_eq_true rfl, Nat.le_of_ble_eq_true rfl⟩ hl.1 rfl (Nat.le_of_ble_eq_true rfl) d_N_remove_27 (fun E _ _ _ _ hex => hex.elim) (fun rr MM H locs hp hW => ?_)
      obtain ⟨rfl, rfl⟩ := hp
      refine lv_if_eq (tgt := 39) hx hb d_N_remove_30 (by decide) (fun c7 => ?_) (fun c7 => ?_)
      · have hf := rd_t hf c7
        refine lv_iload_n hx hb d_N_remove_39 rfl (lv_at hl 2 rfl) ?_
        refine lv_if_ne (tgt := 52) hx hb d_N_remove_40 (by decide) (fun c8 => ?_) (fun c8 => ?_)
        · have hf := rd_f hf c8
          refine lv_aload_n hx hb d_N_remove_52 rfl (lv_at hl 0 rfl) ?_
          refine gf_N_hostOwner C9 hW l_N_31 d_N_remove_53 ?_
          refine lv_iload_n hx hb d_N_remove_56 rfl (lv_at hl 3 rfl) ?_
          obtain ⟨g9, hf⟩ := rd_g hf
          refine al_m_hostOwner C9 hW rfl g9 d_N_remove_57 ?_
          refine lv_iload_n hx hb d_N_remove_58 rfl (lv_at hl 1 rfl) ?_
          refine lv_icmp_eq (tgt := 68) hx hb d_N_remove_59 (by decide) (fun c10 => ?_) (fun c10 => ?_)
          · have hf := rd_t hf c10
            refine lv_aload_n hx hb d_N_remove_68 rfl (lv_at hl 0 rfl) ?_
            refine lv_iload_n hx hb d_N_remove_69 rfl (lv_at hl 2 rfl) ?_
            refine lv_iload_n hx hb d_N_remove_70 rfl (lv_at hl 3 rfl) ?_
            obtain ⟨r11, qr11, hf⟩ := rd_bind hf
            refine rd_callV (As := [.int p2, .int p3]) (rest := []) rd_gd C9 hTh hW (c_N_users hls p2 p3 qr11) kc_N_users ki_N_users ks_N_users l_N_141 rfl (lt_N) (ce_N) rfl ⟨Nat.le_of_ble_eq_true rfl, Nat.le_of_ble_eq_true rfl⟩ ⟨Nat.le_of_ble_eq_true rfl, Nat.le_of_ble_eq_true rfl⟩ hl.1 rfl (Nat.le_of_ble_eq_true rfl) d_N_remove_71 (fun E _ _ _ _ hex => hex.elim) (fun rr MM H locs hp hW => ?_)
            obtain ⟨rfl, rfl⟩ := hp
            refine lv_if_le (tgt := 83) hx hb d_N_remove_74 (by decide) (fun c12 => ?_) (fun c12 => ?_)
            · have hf := rd_t hf c12
              refine lv_iload_n hx hb d_N_remove_83 rfl (lv_at hl 2 rfl) ?_
              refine lv_if_ne (tgt := 97) hx hb d_N_remove_84 (by decide) (fun c13 => ?_) (fun c13 => ?_)
              · have hf := rd_f hf c13
                refine lv_aload_n hx hb d_N_remove_97 rfl (lv_at hl 0 rfl) ?_
                refine gf_N_hostOwner C9 hW l_N_31 d_N_remove_98 ?_
                refine lv_iload_n hx hb d_N_remove_101 rfl (lv_at hl 3 rfl) ?_
                refine lv_iconst (v := (-1)) hx hb d_N_remove_102 (by decide) ?_
                obtain ⟨g14, hf⟩ := rd_g hf
                refine as_m_hostOwner C9 hW rfl g14 d_N_remove_103 (fun H locs hW => ?_)
                obtain ⟨M15, hM15, hf⟩ := rd_k_el hf
                rw [← hM15] at hW
                refine lv_aload_n hx hb d_N_remove_104 rfl (lv_at hl 0 rfl) ?_
                refine lv_aload_n hx hb d_N_remove_105 rfl (lv_at hl 0 rfl) ?_
                refine lv_iload_n hx hb d_N_remove_106 rfl (lv_at hl 2 rfl) ?_
                obtain ⟨r16, qr16, hf⟩ := rd_bind hf
                refine rd_callV (As := [.int p2]) (rest := [.ref (ad 0)]) rd_gd C9 hTh hW (c_N_left hls p2 qr16) kc_N_left ki_N_left ks_N_left l_N_145 rfl (lt_N) (ce_N) rfl ⟨Nat.le_of_ble_eq_true rfl, Nat.le_of_ble_eq_true rfl⟩ ⟨Nat.le_of_ble_eq_true rfl, Nat.le_of_ble_eq_true rfl⟩ hl.1 rfl (Nat.le_of_ble_eq_true rfl) d_N_remove_107 (fun E _ _ _ _ hex => hex.elim) (fun rr MM H locs hp hW => ?_)
                obtain ⟨rfl, rfl⟩ := hp
                obtain ⟨r17, qr17, hf⟩ := rd_bind hf
                refine rd_callV (As := [.int r16]) (rest := []) rd_gd C9 hTh hW (c_N_give hls r16 qr17) kc_N_give ki_N_give ks_N_give l_N_126 rfl (lt_N) (ce_N) rfl ⟨Nat.le_of_ble_eq_true rfl, Nat.le_of_ble_eq_true rfl⟩ ⟨Nat.le_of_ble_eq_true rfl, Nat.le_of_ble_eq_true rfl⟩ hl.1 rfl (Nat.le_of_ble_eq_true rfl) d_N_remove_110 (fun E _ _ _ _ hex => hex.elim) (fun rr MM H locs hp hW => ?_)
                obtain ⟨rfl, rfl⟩ := hp
                obtain rfl := Option.some.inj hf
                exact rd_iret C9 hlk hret hW ⟨rfl, rfl⟩ (by decide) (by decide) d_N_remove_113
              · have hf := rd_t hf c13
                refine lv_aload_n hx hb d_N_remove_87 rfl (lv_at hl 0 rfl) ?_
                refine gf_N_contactOwner C9 hW l_N_28 d_N_remove_88 ?_
                refine lv_iload_n hx hb d_N_remove_91 rfl (lv_at hl 3 rfl) ?_
                refine lv_iconst (v := (-1)) hx hb d_N_remove_92 (by decide) ?_
                obtain ⟨g18, hf⟩ := rd_g hf
                refine as_m_contactOwner C9 hW rfl g18 d_N_remove_93 (fun H locs hW => ?_)
                obtain ⟨M19, hM19, hf⟩ := rd_k_el hf
                rw [← hM19] at hW
                refine lv_goto (tgt := 104) hx hb d_N_remove_94 (by decide) ?_
                refine lv_aload_n hx hb d_N_remove_104 rfl (lv_at hl 0 rfl) ?_
                refine lv_aload_n hx hb d_N_remove_105 rfl (lv_at hl 0 rfl) ?_
                refine lv_iload_n hx hb d_N_remove_106 rfl (lv_at hl 2 rfl) ?_
                obtain ⟨r20, qr20, hf⟩ := rd_bind hf
                refine rd_callV (As := [.int p2]) (rest := [.ref (ad 0)]) rd_gd C9 hTh hW (c_N_left hls p2 qr20) kc_N_left ki_N_left ks_N_left l_N_145 rfl (lt_N) (ce_N) rfl ⟨Nat.le_of_ble_eq_true rfl, Nat.le_of_ble_eq_true rfl⟩ ⟨Nat.le_of_ble_eq_true rfl, Nat.le_of_ble_eq_true rfl⟩ hl.1 rfl (Nat.le_of_ble_eq_true rfl) d_N_remove_107 (fun E _ _ _ _ hex => hex.elim) (fun rr MM H locs hp hW => ?_)
                obtain ⟨rfl, rfl⟩ := hp
                obtain ⟨r21, qr21, hf⟩ := rd_bind hf
                refine rd_callV (As := [.int r20]) (rest := []) rd_gd C9 hTh hW (c_N_give hls r20 qr21) kc_N_give ki_N_give ks_N_give l_N_126 rfl (lt_N) (ce_N) rfl ⟨Nat.le_of_ble_eq_true rfl, Nat.le_of_ble_eq_true rfl⟩ ⟨Nat.le_of_ble_eq_true rfl, Nat.le_of_ble_eq_true rfl⟩ hl.1 rfl (Nat.le_of_ble_eq_true rfl) d_N_remove_110 (fun E _ _ _ _ hex => hex.elim) (fun rr MM H locs hp hW => ?_)
                obtain ⟨rfl, rfl⟩ := hp
                obtain rfl := Option.some.inj hf
                exact rd_iret C9 hlk hret hW ⟨rfl, rfl⟩ (by decide) (by decide) d_N_remove_113
            · have hf := rd_f hf c12
              refine lv_aload_n hx hb d_N_remove_77 rfl (lv_at hl 0 rfl) ?_
              refine lv_iconst (v := 4) hx hb d_N_remove_78 (by decide) ?_
              obtain ⟨r22, qr22, hf⟩ := rd_bind hf
              refine rd_callV (As := [.int 4]) (rest := []) rd_gd C9 hTh hW (c_N_fail hls 4 qr22) kc_N_fail ki_N_fail ks_N_fail l_N_122 rfl (lt_N) (ce_N) rfl ⟨Nat.le_of_ble_eq_true rfl, Nat.le_of_ble_eq_true rfl⟩ ⟨Nat.le_of_ble_eq_true rfl, Nat.le_of_ble_eq_true rfl⟩ hl.1 rfl (Nat.le_of_ble_eq_true rfl) d_N_remove_79 (fun E _ _ _ _ hex => hex.elim) (fun rr MM H locs hp hW => ?_)
              obtain ⟨rfl, rfl⟩ := hp
              obtain rfl := Option.some.inj hf
              exact rd_iret C9 hlk hret hW ⟨rfl, rfl⟩ (by decide) (by decide) d_N_remove_82
          · have hf := rd_f hf c10
            refine lv_aload_n hx hb d_N_remove_62 rfl (lv_at hl 0 rfl) ?_
            refine lv_iconst (v := 3) hx hb d_N_remove_63 (by decide) ?_
            obtain ⟨r23, qr23, hf⟩ := rd_bind hf
            refine rd_callV (As := [.int 3]) (rest := []) rd_gd C9 hTh hW (c_N_fail hls 3 qr23) kc_N_fail ki_N_fail ks_N_fail l_N_122 rfl (lt_N) (ce_N) rfl ⟨Nat.le_of_ble_eq_true rfl, Nat.le_of_ble_eq_true rfl⟩ ⟨Nat.le_of_ble_eq_true rfl, Nat.le_of_ble_eq_true rfl⟩ hl.1 rfl (Nat.le_of_ble_eq_true rfl) d_N_remove_64 (fun E _ _ _ _ hex => hex.elim) (fun rr MM H locs hp hW => ?_)
            obtain ⟨rfl, rfl⟩ := hp
            obtain rfl := Option.some.inj hf
            exact rd_iret C9 hlk hret hW ⟨rfl, rfl⟩ (by decide) (by decide) d_N_remove_67
        · have hf := rd_t hf c8
          refine lv_aload_n hx hb d_N_remove_43 rfl (lv_at hl 0 rfl) ?_
          refine gf_N_contactOwner C9 hW l_N_28 d_N_remove_44 ?_
          refine lv_iload_n hx hb d_N_remove_47 rfl (lv_at hl 3 rfl) ?_
          obtain ⟨g24, hf⟩ := rd_g hf
          refine al_m_contactOwner C9 hW rfl g24 d_N_remove_48 ?_
          refine lv_goto (tgt := 58) hx hb d_N_remove_49 (by decide) ?_
          refine lv_iload_n hx hb d_N_remove_58 rfl (lv_at hl 1 rfl) ?_
          refine lv_icmp_eq (tgt := 68) hx hb d_N_remove_59 (by decide) (fun c25 => ?_) (fun c25 => ?_)
          · have hf := rd_t hf c25
            refine lv_aload_n hx hb d_N_remove_68 rfl (lv_at hl 0 rfl) ?_
            refine lv_iload_n hx hb d_N_remove_69 rfl (lv_at hl 2 rfl) ?_
            refine lv_iload_n hx hb d_N_remove_70 rfl (lv_at hl 3 rfl) ?_
            obtain ⟨r26, qr26, hf⟩ := rd_bind hf
            refine rd_callV (As := [.int p2, .int p3]) (rest := []) rd_gd C9 hTh hW (c_N_users hls p2 p3 qr26) kc_N_users ki_N_users ks_N_users l_N_141 rfl (lt_N) (ce_N) rfl ⟨Nat.le_of_ble_eq_true rfl, Nat.le_of_ble_eq_true rfl⟩ ⟨Nat.le_of_ble_eq_true rfl, Nat.le_of_ble_eq_true rfl⟩ hl.1 rfl (Nat.le_of_ble_eq_true rfl) d_N_remove_71 (fun E _ _ _ _ hex => hex.elim) (fun rr MM H locs hp hW => ?_)
            obtain ⟨rfl, rfl⟩ := hp
            refine lv_if_le (tgt := 83) hx hb d_N_remove_74 (by decide) (fun c27 => ?_) (fun c27 => ?_)
            · have hf := rd_t hf c27
              refine lv_iload_n hx hb d_N_remove_83 rfl (lv_at hl 2 rfl) ?_
              refine lv_if_ne (tgt := 97) hx hb d_N_remove_84 (by decide) (fun c28 => ?_) (fun c28 => ?_)
              · have hf := rd_f hf c28
                refine lv_aload_n hx hb d_N_remove_97 rfl (lv_at hl 0 rfl) ?_
                refine gf_N_hostOwner C9 hW l_N_31 d_N_remove_98 ?_
                refine lv_iload_n hx hb d_N_remove_101 rfl (lv_at hl 3 rfl) ?_
                refine lv_iconst (v := (-1)) hx hb d_N_remove_102 (by decide) ?_
                obtain ⟨g29, hf⟩ := rd_g hf
                refine as_m_hostOwner C9 hW rfl g29 d_N_remove_103 (fun H locs hW => ?_)
                obtain ⟨M30, hM30, hf⟩ := rd_k_el hf
                rw [← hM30] at hW
                refine lv_aload_n hx hb d_N_remove_104 rfl (lv_at hl 0 rfl) ?_
                refine lv_aload_n hx hb d_N_remove_105 rfl (lv_at hl 0 rfl) ?_
                refine lv_iload_n hx hb d_N_remove_106 rfl (lv_at hl 2 rfl) ?_
                obtain ⟨r31, qr31, hf⟩ := rd_bind hf
                refine rd_callV (As := [.int p2]) (rest := [.ref (ad 0)]) rd_gd C9 hTh hW (c_N_left hls p2 qr31) kc_N_left ki_N_left ks_N_left l_N_145 rfl (lt_N) (ce_N) rfl ⟨Nat.le_of_ble_eq_true rfl, Nat.le_of_ble_eq_true rfl⟩ ⟨Nat.le_of_ble_eq_true rfl, Nat.le_of_ble_eq_true rfl⟩ hl.1 rfl (Nat.le_of_ble_eq_true rfl) d_N_remove_107 (fun E _ _ _ _ hex => hex.elim) (fun rr MM H locs hp hW => ?_)
                obtain ⟨rfl, rfl⟩ := hp
                obtain ⟨r32, qr32, hf⟩ := rd_bind hf
                refine rd_callV (As := [.int r31]) (rest := []) rd_gd C9 hTh hW (c_N_give hls r31 qr32) kc_N_give ki_N_give ks_N_give l_N_126 rfl (lt_N) (ce_N) rfl ⟨Nat.le_of_ble_eq_true rfl, Nat.le_of_ble_eq_true rfl⟩ ⟨Nat.le_of_ble_eq_true rfl, Nat.le_of_ble_eq_true rfl⟩ hl.1 rfl (Nat.le_of_ble_eq_true rfl) d_N_remove_110 (fun E _ _ _ _ hex => hex.elim) (fun rr MM H locs hp hW => ?_)
                obtain ⟨rfl, rfl⟩ := hp
                obtain rfl := Option.some.inj hf
                exact rd_iret C9 hlk hret hW ⟨rfl, rfl⟩ (by decide) (by decide) d_N_remove_113
              · have hf := rd_t hf c28
                refine lv_aload_n hx hb d_N_remove_87 rfl (lv_at hl 0 rfl) ?_
                refine gf_N_contactOwner C9 hW l_N_28 d_N_remove_88 ?_
                refine lv_iload_n hx hb d_N_remove_91 rfl (lv_at hl 3 rfl) ?_
                refine lv_iconst (v := (-1)) hx hb d_N_remove_92 (by decide) ?_
                obtain ⟨g33, hf⟩ := rd_g hf
                refine as_m_contactOwner C9 hW rfl g33 d_N_remove_93 (fun H locs hW => ?_)
                obtain ⟨M34, hM34, hf⟩ := rd_k_el hf
                rw [← hM34] at hW
                refine lv_goto (tgt := 104) hx hb d_N_remove_94 (by decide) ?_
                refine lv_aload_n hx hb d_N_remove_104 rfl (lv_at hl 0 rfl) ?_
                refine lv_aload_n hx hb d_N_remove_105 rfl (lv_at hl 0 rfl) ?_
                refine lv_iload_n hx hb d_N_remove_106 rfl (lv_at hl 2 rfl) ?_
                obtain ⟨r35, qr35, hf⟩ := rd_bind hf
                refine rd_callV (As := [.int p2]) (rest := [.ref (ad 0)]) rd_gd C9 hTh hW (c_N_left hls p2 qr35) kc_N_left ki_N_left ks_N_left l_N_145 rfl (lt_N) (ce_N) rfl ⟨Nat.le_of_ble_eq_true rfl, Nat.le_of_ble_eq_true rfl⟩ ⟨Nat.le_of_ble_eq_true rfl, Nat.le_of_ble_eq_true rfl⟩ hl.1 rfl (Nat.le_of_ble_eq_true rfl) d_N_remove_107 (fun E _ _ _ _ hex => hex.elim) (fun rr MM H locs hp hW => ?_)
                obtain ⟨rfl, rfl⟩ := hp
                obtain ⟨r36, qr36, hf⟩ := rd_bind hf
                refine rd_callV (As := [.int r35]) (rest := []) rd_gd C9 hTh hW (c_N_give hls r35 qr36) kc_N_give ki_N_give ks_N_give l_N_126 rfl (lt_N) (ce_N) rfl ⟨Nat.le_of_ble_eq_true rfl, Nat.le_of_ble_eq_true rfl⟩ ⟨Nat.le_of_ble_eq_true rfl, Nat.le_of_ble_eq_true rfl⟩ hl.1 rfl (Nat.le_of_ble_eq_true rfl) d_N_remove_110 (fun E _ _ _ _ hex => hex.elim) (fun rr MM H locs hp hW => ?_)
                obtain ⟨rfl, rfl⟩ := hp
                obtain rfl := Option.some.inj hf
                exact rd_iret C9 hlk hret hW ⟨rfl, rfl⟩ (by decide) (by decide) d_N_remove_113
            · have hf := rd_f hf c27
              refine lv_aload_n hx hb d_N_remove_77 rfl (lv_at hl 0 rfl) ?_
              refine lv_iconst (v := 4) hx hb d_N_remove_78 (by decide) ?_
              obtain ⟨r37, qr37, hf⟩ := rd_bind hf
              refine rd_callV (As := [.int 4]) (rest := []) rd_gd C9 hTh hW (c_N_fail hls 4 qr37) kc_N_fail ki_N_fail ks_N_fail l_N_122 rfl (lt_N) (ce_N) rfl ⟨Nat.le_of_ble_eq_true rfl, Nat.le_of_ble_eq_true rfl⟩ ⟨Nat.le_of_ble_eq_true rfl, Nat.le_of_ble_eq_true rfl⟩ hl.1 rfl (Nat.le_of_ble_eq_true rfl) d_N_remove_79 (fun E _ _ _ _ hex => hex.elim) (fun rr MM H locs hp hW => ?_)
              obtain ⟨rfl, rfl⟩ := hp
              obtain rfl := Option.some.inj hf
              exact rd_iret C9 hlk hret hW ⟨rfl, rfl⟩ (by decide) (by decide) d_N_remove_82
          · have hf := rd_f hf c25
            refine lv_aload_n hx hb d_N_remove_62 rfl (lv_at hl 0 rfl) ?_
            refine lv_iconst (v := 3) hx hb d_N_remove_63 (by decide) ?_
            obtain ⟨r38, qr38, hf⟩ := rd_bind hf
            refine rd_callV (As := [.int 3]) (rest := []) rd_gd C9 hTh hW (c_N_fail hls 3 qr38) kc_N_fail ki_N_fail ks_N_fail l_N_122 rfl (lt_N) (ce_N) rfl ⟨Nat.le_of_ble_eq_true rfl, Nat.le_of_ble_eq_true rfl⟩ ⟨Nat.le_of_ble_eq_true rfl, Nat.le_of_ble_eq_true rfl⟩ hl.1 rfl (Nat.le_of_ble_eq_true rfl) d_N_remove_64 (fun E _ _ _ _ hex => hex.elim) (fun rr MM H locs hp hW => ?_)
            obtain ⟨rfl, rfl⟩ := hp
            obtain rfl := Option.some.inj hf
            exact rd_iret C9 hlk hret hW ⟨rfl, rfl⟩ (by decide) (by decide) d_N_remove_67
      · have hf := rd_f hf c7
        refine lv_aload_n hx hb d_N_remove_33 rfl (lv_at hl 0 rfl) ?_
        refine lv_iconst (v := 2) hx hb d_N_remove_34 (by decide) ?_
        obtain ⟨r39, qr39, hf⟩ := rd_bind hf
        refine rd_callV (As := [.int 2]) (rest := []) rd_gd C9 hTh hW (c_N_fail hls 2 qr39) kc_N_fail ki_N_fail ks_N_fail l_N_122 rfl (lt_N) (ce_N) rfl ⟨Nat.le_of_ble_eq_true rfl, Nat.le_of_ble_eq_true rfl⟩ ⟨Nat.le_of_ble_eq_true rfl, Nat.le_of_ble_eq_true rfl⟩ hl.1 rfl (Nat.le_of_ble_eq_true rfl) d_N_remove_35 (fun E _ _ _ _ hex => hex.elim) (fun rr MM H locs hp hW => ?_)
        obtain ⟨rfl, rfl⟩ := hp
        obtain rfl := Option.some.inj hf
        exact rd_iret C9 hlk hret hW ⟨rfl, rfl⟩ (by decide) (by decide) d_N_remove_38
    · have hf := rd_t hf c5
      refine lv_aload_n hx hb d_N_remove_18 rfl (lv_at hl 0 rfl) ?_
      refine lv_iconst (v := 1) hx hb d_N_remove_19 (by decide) ?_
      obtain ⟨r40, qr40, hf⟩ := rd_bind hf
      refine rd_callV (As := [.int 1]) (rest := []) rd_gd C9 hTh hW (c_N_fail hls 1 qr40) kc_N_fail ki_N_fail ks_N_fail l_N_122 rfl (lt_N) (ce_N) rfl ⟨Nat.le_of_ble_eq_true rfl, Nat.le_of_ble_eq_true rfl⟩ ⟨Nat.le_of_ble_eq_true rfl, Nat.le_of_ble_eq_true rfl⟩ hl.1 rfl (Nat.le_of_ble_eq_true rfl) d_N_remove_20 (fun E _ _ _ _ hex => hex.elim) (fun rr MM H locs hp hW => ?_)
      obtain ⟨rfl, rfl⟩ := hp
      obtain rfl := Option.some.inj hf
      exact rd_iret C9 hlk hret hW ⟨rfl, rfl⟩ (by decide) (by decide) d_N_remove_23
