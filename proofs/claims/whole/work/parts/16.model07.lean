def f_N_newDay (M : rd_M) (p1 : Int32) : Option (rd_M) :=
  (f_N_noDomain M p1).bind fun r1 =>
  if r1 = 0 then
    if rd_in p1 10 then
    if ((M 16).1 p1.toNatClampNeg) < 0 then
      if rd_in p1 10 then
      if ((M 14).1 p1.toNatClampNeg) = 0 then
        if rd_in p1 10 then
        if ((M 0).1 1) ≤ ((M 11).1 p1.toNatClampNeg) then
          if rd_in p1 10 then
          if ((M 14).1 p1.toNatClampNeg) = 1 then
            if rd_in p1 10 then
            if ((M 0).1 1) ≤ ((M 15).1 p1.toNatClampNeg) then
              if rd_in p1 10 then
              if ((M 14).1 p1.toNatClampNeg) = 2 then
                if rd_in p1 10 then
                if ((M 0).1 1) ≤ ((M 15).1 p1.toNatClampNeg) then
                  some M
                else
                  if rd_in p1 10 then
                  (f_N_removeDomain M p1).bind fun r48 =>
                  (f_N_tell r48 ((M 10).1 p1.toNatClampNeg) 4 p1).bind fun r49 =>
                  some r49
                  else none
                else none
              else
                some M
              else none
            else
              if rd_in p1 10 then
              rd_k (rd_iU M 14 p1.toNatClampNeg 2) fun M51 =>
              if rd_in p1 10 then
              if rd_in p1 10 then
              rd_k (rd_iU M51 15 p1.toNatClampNeg (((M51 15).1 p1.toNatClampNeg) + 2)) fun M54 =>
              some M54
              else none
              else none
              else none
            else none
          else
            if rd_in p1 10 then
            if ((M 14).1 p1.toNatClampNeg) = 2 then
              if rd_in p1 10 then
              if ((M 0).1 1) ≤ ((M 15).1 p1.toNatClampNeg) then
                some M
              else
                if rd_in p1 10 then
                (f_N_removeDomain M p1).bind fun r39 =>
                (f_N_tell r39 ((M 10).1 p1.toNatClampNeg) 4 p1).bind fun r40 =>
                some r40
                else none
              else none
            else
              some M
            else none
          else none
        else
          if rd_in p1 10 then
          if rd_in p1 10 then
          rd_k (rd_iU M 11 p1.toNatClampNeg (((M 11).1 p1.toNatClampNeg) + 10)) fun M57 =>
          if rd_in p1 10 then
          (f_N_pay M57 ((M57 10).1 p1.toNatClampNeg) 1 1 p1 4).bind fun r59 =>
          some r59
          else none
          else none
          else none
        else none
      else
        if rd_in p1 10 then
        if ((M 14).1 p1.toNatClampNeg) = 1 then
          if rd_in p1 10 then
          if ((M 0).1 1) ≤ ((M 15).1 p1.toNatClampNeg) then
            if rd_in p1 10 then
            if ((M 14).1 p1.toNatClampNeg) = 2 then
              if rd_in p1 10 then
              if ((M 0).1 1) ≤ ((M 15).1 p1.toNatClampNeg) then
                some M
              else
                if rd_in p1 10 then
                (f_N_removeDomain M p1).bind fun r23 =>
                (f_N_tell r23 ((M 10).1 p1.toNatClampNeg) 4 p1).bind fun r24 =>
                some r24
                else none
              else none
            else
              some M
            else none
          else
            if rd_in p1 10 then
            rd_k (rd_iU M 14 p1.toNatClampNeg 2) fun M26 =>
            if rd_in p1 10 then
            if rd_in p1 10 then
            rd_k (rd_iU M26 15 p1.toNatClampNeg (((M26 15).1 p1.toNatClampNeg) + 2)) fun M29 =>
            some M29
            else none
            else none
            else none
          else none
        else
          if rd_in p1 10 then
          if ((M 14).1 p1.toNatClampNeg) = 2 then
            if rd_in p1 10 then
            if ((M 0).1 1) ≤ ((M 15).1 p1.toNatClampNeg) then
              some M
            else
              if rd_in p1 10 then
              (f_N_removeDomain M p1).bind fun r14 =>
              (f_N_tell r14 ((M 10).1 p1.toNatClampNeg) 4 p1).bind fun r15 =>
              some r15
              else none
            else none
          else
            some M
          else none
        else none
      else none
    else
      if rd_in p1 10 then
      if ((M 0).1 1) ≤ ((M 17).1 p1.toNatClampNeg) then
        if rd_in p1 10 then
        if ((M 14).1 p1.toNatClampNeg) = 0 then
          if rd_in p1 10 then
          if ((M 0).1 1) ≤ ((M 11).1 p1.toNatClampNeg) then
            if rd_in p1 10 then
            if ((M 14).1 p1.toNatClampNeg) = 1 then
              if rd_in p1 10 then
              if ((M 0).1 1) ≤ ((M 15).1 p1.toNatClampNeg) then
                if rd_in p1 10 then
                if ((M 14).1 p1.toNatClampNeg) = 2 then
                  if rd_in p1 10 then
                  if ((M 0).1 1) ≤ ((M 15).1 p1.toNatClampNeg) then
                    some M
                  else
                    if rd_in p1 10 then
                    (f_N_removeDomain M p1).bind fun r105 =>
                    (f_N_tell r105 ((M 10).1 p1.toNatClampNeg) 4 p1).bind fun r106 =>
                    some r106
                    else none
                  else none
                else
                  some M
                else none
              else
                if rd_in p1 10 then
                rd_k (rd_iU M 14 p1.toNatClampNeg 2) fun M108 =>
                if rd_in p1 10 then
                if rd_in p1 10 then
                rd_k (rd_iU M108 15 p1.toNatClampNeg (((M108 15).1 p1.toNatClampNeg) + 2)) fun M111 =>
                some M111
                else none
                else none
                else none
              else none
            else
              if rd_in p1 10 then
              if ((M 14).1 p1.toNatClampNeg) = 2 then
                if rd_in p1 10 then
                if ((M 0).1 1) ≤ ((M 15).1 p1.toNatClampNeg) then
                  some M
                else
                  if rd_in p1 10 then
                  (f_N_removeDomain M p1).bind fun r96 =>
                  (f_N_tell r96 ((M 10).1 p1.toNatClampNeg) 4 p1).bind fun r97 =>
                  some r97
                  else none
                else none
              else
                some M
              else none
            else none
          else
            if rd_in p1 10 then
            if rd_in p1 10 then
            rd_k (rd_iU M 11 p1.toNatClampNeg (((M 11).1 p1.toNatClampNeg) + 10)) fun M114 =>
            if rd_in p1 10 then
            (f_N_pay M114 ((M114 10).1 p1.toNatClampNeg) 1 1 p1 4).bind fun r116 =>
            some r116
            else none
            else none
            else none
          else none
        else
          if rd_in p1 10 then
          if ((M 14).1 p1.toNatClampNeg) = 1 then
            if rd_in p1 10 then
            if ((M 0).1 1) ≤ ((M 15).1 p1.toNatClampNeg) then
              if rd_in p1 10 then
              if ((M 14).1 p1.toNatClampNeg) = 2 then
                if rd_in p1 10 then
                if ((M 0).1 1) ≤ ((M 15).1 p1.toNatClampNeg) then
                  some M
                else
                  if rd_in p1 10 then
                  (f_N_removeDomain M p1).bind fun r80 =>
                  (f_N_tell r80 ((M 10).1 p1.toNatClampNeg) 4 p1).bind fun r81 =>
                  some r81
                  else none
                else none
              else
                some M
              else none
            else
              if rd_in p1 10 then
              rd_k (rd_iU M 14 p1.toNatClampNeg 2) fun M83 =>
              if rd_in p1 10 then
              if rd_in p1 10 then
              rd_k (rd_iU M83 15 p1.toNatClampNeg (((M83 15).1 p1.toNatClampNeg) + 2)) fun M86 =>
              some M86
              else none
              else none
              else none
            else none
          else
            if rd_in p1 10 then
            if ((M 14).1 p1.toNatClampNeg) = 2 then
              if rd_in p1 10 then
              if ((M 0).1 1) ≤ ((M 15).1 p1.toNatClampNeg) then
                some M
              else
                if rd_in p1 10 then
                (f_N_removeDomain M p1).bind fun r71 =>
                (f_N_tell r71 ((M 10).1 p1.toNatClampNeg) 4 p1).bind fun r72 =>
                some r72
                else none
              else none
            else
              some M
            else none
          else none
        else none
      else
        if rd_in p1 10 then
        (f_N_canPay M ((M 16).1 p1.toNatClampNeg) 2 1).bind fun r118 =>
        if r118 = 0 then
          (f_N_endTransfer M p1).bind fun r120 =>
          if rd_in p1 10 then
          if ((r120 14).1 p1.toNatClampNeg) = 0 then
            if rd_in p1 10 then
            if ((r120 0).1 1) ≤ ((r120 11).1 p1.toNatClampNeg) then
              if rd_in p1 10 then
              if ((r120 14).1 p1.toNatClampNeg) = 1 then
                if rd_in p1 10 then
                if ((r120 0).1 1) ≤ ((r120 15).1 p1.toNatClampNeg) then
                  if rd_in p1 10 then
                  if ((r120 14).1 p1.toNatClampNeg) = 2 then
                    if rd_in p1 10 then
                    if ((r120 0).1 1) ≤ ((r120 15).1 p1.toNatClampNeg) then
                      some r120
                    else
                      if rd_in p1 10 then
                      (f_N_removeDomain r120 p1).bind fun r164 =>
                      (f_N_tell r164 ((r120 10).1 p1.toNatClampNeg) 4 p1).bind fun r165 =>
                      some r165
                      else none
                    else none
                  else
                    some r120
                  else none
                else
                  if rd_in p1 10 then
                  rd_k (rd_iU r120 14 p1.toNatClampNeg 2) fun M167 =>
                  if rd_in p1 10 then
                  if rd_in p1 10 then
                  rd_k (rd_iU M167 15 p1.toNatClampNeg (((M167 15).1 p1.toNatClampNeg) + 2)) fun M170 =>
                  some M170
                  else none
                  else none
                  else none
                else none
              else
                if rd_in p1 10 then
                if ((r120 14).1 p1.toNatClampNeg) = 2 then
                  if rd_in p1 10 then
                  if ((r120 0).1 1) ≤ ((r120 15).1 p1.toNatClampNeg) then
                    some r120
                  else
                    if rd_in p1 10 then
                    (f_N_removeDomain r120 p1).bind fun r155 =>
                    (f_N_tell r155 ((r120 10).1 p1.toNatClampNeg) 4 p1).bind fun r156 =>
                    some r156
                    else none
                  else none
                else
                  some r120
                else none
              else none
            else
              if rd_in p1 10 then
              if rd_in p1 10 then
              rd_k (rd_iU r120 11 p1.toNatClampNeg (((r120 11).1 p1.toNatClampNeg) + 10)) fun M173 =>
              if rd_in p1 10 then
              (f_N_pay M173 ((M173 10).1 p1.toNatClampNeg) 1 1 p1 4).bind fun r175 =>
              some r175
              else none
              else none
              else none
            else none
          else
            if rd_in p1 10 then
            if ((r120 14).1 p1.toNatClampNeg) = 1 then
              if rd_in p1 10 then
              if ((r120 0).1 1) ≤ ((r120 15).1 p1.toNatClampNeg) then
                if rd_in p1 10 then
                if ((r120 14).1 p1.toNatClampNeg) = 2 then
                  if rd_in p1 10 then
                  if ((r120 0).1 1) ≤ ((r120 15).1 p1.toNatClampNeg) then
                    some r120
                  else
                    if rd_in p1 10 then
                    (f_N_removeDomain r120 p1).bind fun r139 =>
                    (f_N_tell r139 ((r120 10).1 p1.toNatClampNeg) 4 p1).bind fun r140 =>
                    some r140
                    else none
                  else none
                else
                  some r120
                else none
              else
                if rd_in p1 10 then
                rd_k (rd_iU r120 14 p1.toNatClampNeg 2) fun M142 =>
                if rd_in p1 10 then
                if rd_in p1 10 then
                rd_k (rd_iU M142 15 p1.toNatClampNeg (((M142 15).1 p1.toNatClampNeg) + 2)) fun M145 =>
                some M145
                else none
                else none
                else none
              else none
            else
              if rd_in p1 10 then
              if ((r120 14).1 p1.toNatClampNeg) = 2 then
                if rd_in p1 10 then
                if ((r120 0).1 1) ≤ ((r120 15).1 p1.toNatClampNeg) then
                  some r120
                else
                  if rd_in p1 10 then
                  (f_N_removeDomain r120 p1).bind fun r130 =>
                  (f_N_tell r130 ((r120 10).1 p1.toNatClampNeg) 4 p1).bind fun r131 =>
                  some r131
                  else none
                else none
              else
                some r120
              else none
            else none
          else none
        else
          (f_N_handOver M p1).bind fun r176 =>
          if rd_in p1 10 then
          if ((r176 14).1 p1.toNatClampNeg) = 0 then
            if rd_in p1 10 then
            if ((r176 0).1 1) ≤ ((r176 11).1 p1.toNatClampNeg) then
              if rd_in p1 10 then
              if ((r176 14).1 p1.toNatClampNeg) = 1 then
                if rd_in p1 10 then
                if ((r176 0).1 1) ≤ ((r176 15).1 p1.toNatClampNeg) then
                  if rd_in p1 10 then
                  if ((r176 14).1 p1.toNatClampNeg) = 2 then
                    if rd_in p1 10 then
                    if ((r176 0).1 1) ≤ ((r176 15).1 p1.toNatClampNeg) then
                      some r176
                    else
                      if rd_in p1 10 then
                      (f_N_removeDomain r176 p1).bind fun r220 =>
                      (f_N_tell r220 ((r176 10).1 p1.toNatClampNeg) 4 p1).bind fun r221 =>
                      some r221
                      else none
                    else none
                  else
                    some r176
                  else none
                else
                  if rd_in p1 10 then
                  rd_k (rd_iU r176 14 p1.toNatClampNeg 2) fun M223 =>
                  if rd_in p1 10 then
                  if rd_in p1 10 then
                  rd_k (rd_iU M223 15 p1.toNatClampNeg (((M223 15).1 p1.toNatClampNeg) + 2)) fun M226 =>
                  some M226
                  else none
                  else none
                  else none
                else none
              else
                if rd_in p1 10 then
                if ((r176 14).1 p1.toNatClampNeg) = 2 then
                  if rd_in p1 10 then
                  if ((r176 0).1 1) ≤ ((r176 15).1 p1.toNatClampNeg) then
                    some r176
                  else
                    if rd_in p1 10 then
                    (f_N_removeDomain r176 p1).bind fun r211 =>
                    (f_N_tell r211 ((r176 10).1 p1.toNatClampNeg) 4 p1).bind fun r212 =>
                    some r212
                    else none
                  else none
                else
                  some r176
                else none
              else none
            else
              if rd_in p1 10 then
              if rd_in p1 10 then
              rd_k (rd_iU r176 11 p1.toNatClampNeg (((r176 11).1 p1.toNatClampNeg) + 10)) fun M229 =>
              if rd_in p1 10 then
              (f_N_pay M229 ((M229 10).1 p1.toNatClampNeg) 1 1 p1 4).bind fun r231 =>
              some r231
              else none
              else none
              else none
            else none
          else
            if rd_in p1 10 then
            if ((r176 14).1 p1.toNatClampNeg) = 1 then
              if rd_in p1 10 then
              if ((r176 0).1 1) ≤ ((r176 15).1 p1.toNatClampNeg) then
                if rd_in p1 10 then
                if ((r176 14).1 p1.toNatClampNeg) = 2 then
                  if rd_in p1 10 then
                  if ((r176 0).1 1) ≤ ((r176 15).1 p1.toNatClampNeg) then
                    some r176
                  else
                    if rd_in p1 10 then
                    (f_N_removeDomain r176 p1).bind fun r195 =>
                    (f_N_tell r195 ((r176 10).1 p1.toNatClampNeg) 4 p1).bind fun r196 =>
                    some r196
                    else none
                  else none
                else
                  some r176
                else none
              else
                if rd_in p1 10 then
                rd_k (rd_iU r176 14 p1.toNatClampNeg 2) fun M198 =>
                if rd_in p1 10 then
                if rd_in p1 10 then
                rd_k (rd_iU M198 15 p1.toNatClampNeg (((M198 15).1 p1.toNatClampNeg) + 2)) fun M201 =>
                some M201
                else none
                else none
                else none
              else none
            else
              if rd_in p1 10 then
              if ((r176 14).1 p1.toNatClampNeg) = 2 then
                if rd_in p1 10 then
                if ((r176 0).1 1) ≤ ((r176 15).1 p1.toNatClampNeg) then
                  some r176
                else
                  if rd_in p1 10 then
                  (f_N_removeDomain r176 p1).bind fun r186 =>
                  (f_N_tell r186 ((r176 10).1 p1.toNatClampNeg) 4 p1).bind fun r187 =>
                  some r187
                  else none
                else none
              else
                some r176
              else none
            else none
          else none
        else none
      else none
    else none
  else
    some M
set_option maxRecDepth 100000 in
set_option maxHeartbeats 4000000 in
theorem c_N_newDay {l : Launch} (hls : l.stackTraces = false) {D : va_G} {Ka : Nat → ClassId} {ad : Nat → Nat} {M : rd_M} (p1 : Int32)  {o : rd_M} (hf : f_N_newDay M p1 = some o) :
    rd_Met l y_N_newDay b_N_newDay 3 none (3, 76, 0, 0) rd_T rd_ss D rd_cl (rd_ty Ka) (rm_L Ka) ad M [.ref (ad 0), .int p1] (fun r M1 => r = none ∧ o = M1) (fun _ => False) := by
  refine rd_body (by decide) (Nat.le_of_ble_eq_true rfl) ?_
  intro p e s m below meth c C9 hlk hret hnt hTh hW ls hl
  have hx := C9.1.1
  have hb := C9.1.2.1
  have hl : lv_has ls 3 [(0, .ref (ad 0)), (1, .int p1)] := hl
  unfold f_N_newDay at hf
  refine lv_aload_n hx hb d_N_newDay_0 rfl (lv_at hl 0 rfl) ?_
  refine lv_iload_n hx hb d_N_newDay_1 rfl (lv_at hl 1 rfl) ?_
  obtain ⟨r1, qr1, hf⟩ := rd_bind hf
  refine rd_callV (As := [.int p1]) (rest := []) rd_gd C9 hTh hW (c_N_noDomain hls p1 qr1) kc_N_noDomain ki_N_noDomain ks_N_noDomain l_N_133 rfl (lt_N) (ce_N) rfl ⟨Nat.le_of_ble_eq_true rfl, Nat.le_of_ble_eq_true rfl⟩ ⟨Nat.le_of_ble_eq_true rfl, Nat.le_of_ble_eq_true rfl⟩ hl.1 rfl (Nat.le_of_ble_eq_true rfl) d_N_newDay_2 (fun E _ _ _ _ hex => hex.elim) (fun rr MM H locs hp hW => ?_)
  obtain ⟨rfl, rfl⟩ := hp
  refine lv_if_eq (tgt := 9) hx hb d_N_newDay_5 (by decide) (fun c2 => ?_) (fun c2 => ?_)
  · have hf := rd_t hf c2
    refine lv_aload_n hx hb d_N_newDay_9 rfl (lv_at hl 0 rfl) ?_
    refine gf_N_wants C9 hW l_N_58 d_N_newDay_10 ?_
    refine lv_iload_n hx hb d_N_newDay_13 rfl (lv_at hl 1 rfl) ?_
    obtain ⟨g3, hf⟩ := rd_g hf
    refine al_m_wants C9 hW rfl g3 d_N_newDay_14 ?_
    refine lv_if_lt (tgt := 59) hx hb d_N_newDay_15 (by decide) (fun c4 => ?_) (fun c4 => ?_)
    · have hf := rd_t hf c4
      refine lv_aload_n hx hb d_N_newDay_59 rfl (lv_at hl 0 rfl) ?_
      refine gf_N_state C9 hW l_N_52 d_N_newDay_60 ?_
      refine lv_iload_n hx hb d_N_newDay_63 rfl (lv_at hl 1 rfl) ?_
      obtain ⟨g5, hf⟩ := rd_g hf
      refine al_m_state C9 hW rfl g5 d_N_newDay_64 ?_
      refine lv_if_ne (tgt := 109) hx hb d_N_newDay_65 (by decide) (fun c6 => ?_) (fun c6 => ?_)
      · have hf := rd_f hf c6
        refine lv_aload_n hx hb d_N_newDay_109 rfl (lv_at hl 0 rfl) ?_
        refine gf_N_state C9 hW l_N_52 d_N_newDay_110 ?_
        refine lv_iload_n hx hb d_N_newDay_113 rfl (lv_at hl 1 rfl) ?_
        obtain ⟨g7, hf⟩ := rd_g hf
        refine al_m_state C9 hW rfl g7 d_N_newDay_114 ?_
        refine lv_iconst (v := 1) hx hb d_N_newDay_115 (by decide) ?_
        refine lv_icmp_ne (tgt := 152) hx hb d_N_newDay_116 (by decide) (fun c8 => ?_) (fun c8 => ?_)
        · have hf := rd_f hf c8
          refine lv_aload_n hx hb d_N_newDay_152 rfl (lv_at hl 0 rfl) ?_
          refine gf_N_state C9 hW l_N_52 d_N_newDay_153 ?_
          refine lv_iload_n hx hb d_N_newDay_156 rfl (lv_at hl 1 rfl) ?_
          obtain ⟨g9, hf⟩ := rd_g hf
          refine al_m_state C9 hW rfl g9 d_N_newDay_157 ?_
          refine lv_iconst (v := 2) hx hb d_N_newDay_158 (by decide) ?_
          refine lv_icmp_ne (tgt := 194) hx hb d_N_newDay_159 (by decide) (fun c10 => ?_) (fun c10 => ?_)
          · have hf := rd_f hf c10
            obtain rfl := Option.some.inj hf
            exact rd_vret C9 hlk hret hW ⟨rfl, rfl⟩ (by decide) (by decide) d_N_newDay_194
          · have hf := rd_t hf c10
            refine lv_aload_n hx hb d_N_newDay_162 rfl (lv_at hl 0 rfl) ?_
            refine gf_N_ends C9 hW l_N_55 d_N_newDay_163 ?_
            refine lv_iload_n hx hb d_N_newDay_166 rfl (lv_at hl 1 rfl) ?_
            obtain ⟨g11, hf⟩ := rd_g hf
            refine al_m_ends C9 hW rfl g11 d_N_newDay_167 ?_
            refine lv_aload_n hx hb d_N_newDay_168 rfl (lv_at hl 0 rfl) ?_
            refine gf_N_day C9 hW l_N_98 d_N_newDay_169 ?_
            refine lv_icmp_ge (tgt := 194) hx hb d_N_newDay_172 (by decide) (fun c12 => ?_) (fun c12 => ?_)
            · have hf := rd_t hf c12
              obtain rfl := Option.some.inj hf
              exact rd_vret C9 hlk hret hW ⟨rfl, rfl⟩ (by decide) (by decide) d_N_newDay_194
            · have hf := rd_f hf c12
              refine lv_aload_n hx hb d_N_newDay_175 rfl (lv_at hl 0 rfl) ?_
              refine gf_N_owner C9 hW l_N_40 d_N_newDay_176 ?_
              refine lv_iload_n hx hb d_N_newDay_179 rfl (lv_at hl 1 rfl) ?_
              obtain ⟨g13, hf⟩ := rd_g hf
              refine al_m_owner C9 hW rfl g13 d_N_newDay_180 ?_
              refine lv_istore_n (lv' := [(2, .int ((M 10).1 p1.toNatClampNeg)), (0, .ref (ad 0)), (1, .int p1)]) hx hb d_N_newDay_181 rfl hl (by decide) rfl (fun ls hl => ?_)
              refine lv_aload_n hx hb d_N_newDay_182 rfl (lv_at hl 1 rfl) ?_
              refine lv_iload_n hx hb d_N_newDay_183 rfl (lv_at hl 2 rfl) ?_
              obtain ⟨r14, qr14, hf⟩ := rd_bind hf
              refine rd_callV (As := [.int p1]) (rest := []) rd_gd C9 hTh hW (c_N_removeDomain hls p1 qr14) kc_N_removeDomain ki_N_removeDomain ks_N_removeDomain l_N_168 rfl (lt_N) (ce_N) rfl ⟨Nat.le_of_ble_eq_true rfl, Nat.le_of_ble_eq_true rfl⟩ ⟨Nat.le_of_ble_eq_true rfl, Nat.le_of_ble_eq_true rfl⟩ hl.1 rfl (Nat.le_of_ble_eq_true rfl) d_N_newDay_184 (fun E _ _ _ _ hex => hex.elim) (fun rr MM H locs hp hW => ?_)
              obtain ⟨rfl, rfl⟩ := hp
              refine lv_aload_n hx hb d_N_newDay_187 rfl (lv_at hl 1 rfl) ?_
              refine lv_iload_n hx hb d_N_newDay_188 rfl (lv_at hl 0 rfl) ?_
              refine lv_iconst (v := 4) hx hb d_N_newDay_189 (by decide) ?_
              refine lv_iload_n hx hb d_N_newDay_190 rfl (lv_at hl 2 rfl) ?_
              obtain ⟨r15, qr15, hf⟩ := rd_bind hf
              refine rd_callV (As := [.int ((M 10).1 p1.toNatClampNeg), .int 4, .int p1]) (rest := []) rd_gd C9 hTh hW (c_N_tell hls ((M 10).1 p1.toNatClampNeg) 4 p1 qr15) kc_N_tell ki_N_tell ks_N_tell l_N_171 rfl (lt_N) (ce_N) rfl ⟨Nat.le_of_ble_eq_true rfl, Nat.le_of_ble_eq_true rfl⟩ ⟨Nat.le_of_ble_eq_true rfl, Nat.le_of_ble_eq_true rfl⟩ hl.1 rfl (Nat.le_of_ble_eq_true rfl) d_N_newDay_191 (fun E _ _ _ _ hex => hex.elim) (fun rr MM H locs hp hW => ?_)
              obtain ⟨rfl, rfl⟩ := hp
              obtain rfl := Option.some.inj hf
              exact rd_vret C9 hlk hret hW ⟨rfl, rfl⟩ (by decide) (by decide) d_N_newDay_194
        · have hf := rd_t hf c8
          refine lv_aload_n hx hb d_N_newDay_119 rfl (lv_at hl 0 rfl) ?_
          refine gf_N_ends C9 hW l_N_55 d_N_newDay_120 ?_
          refine lv_iload_n hx hb d_N_newDay_123 rfl (lv_at hl 1 rfl) ?_
          obtain ⟨g16, hf⟩ := rd_g hf
          refine al_m_ends C9 hW rfl g16 d_N_newDay_124 ?_
          refine lv_aload_n hx hb d_N_newDay_125 rfl (lv_at hl 0 rfl) ?_
          refine gf_N_day C9 hW l_N_98 d_N_newDay_126 ?_
          refine lv_icmp_ge (tgt := 152) hx hb d_N_newDay_129 (by decide) (fun c17 => ?_) (fun c17 => ?_)
          · have hf := rd_t hf c17
            refine lv_aload_n hx hb d_N_newDay_152 rfl (lv_at hl 0 rfl) ?_
            refine gf_N_state C9 hW l_N_52 d_N_newDay_153 ?_
            refine lv_iload_n hx hb d_N_newDay_156 rfl (lv_at hl 1 rfl) ?_
            obtain ⟨g18, hf⟩ := rd_g hf
            refine al_m_state C9 hW rfl g18 d_N_newDay_157 ?_
            refine lv_iconst (v := 2) hx hb d_N_newDay_158 (by decide) ?_
            refine lv_icmp_ne (tgt := 194) hx hb d_N_newDay_159 (by decide) (fun c19 => ?_) (fun c19 => ?_)
            · have hf := rd_f hf c19
              obtain rfl := Option.some.inj hf
              exact rd_vret C9 hlk hret hW ⟨rfl, rfl⟩ (by decide) (by decide) d_N_newDay_194
            · have hf := rd_t hf c19
              refine lv_aload_n hx hb d_N_newDay_162 rfl (lv_at hl 0 rfl) ?_
              refine gf_N_ends C9 hW l_N_55 d_N_newDay_163 ?_
              refine lv_iload_n hx hb d_N_newDay_166 rfl (lv_at hl 1 rfl) ?_
              obtain ⟨g20, hf⟩ := rd_g hf
              refine al_m_ends C9 hW rfl g20 d_N_newDay_167 ?_
              refine lv_aload_n hx hb d_N_newDay_168 rfl (lv_at hl 0 rfl) ?_
              refine gf_N_day C9 hW l_N_98 d_N_newDay_169 ?_
              refine lv_icmp_ge (tgt := 194) hx hb d_N_newDay_172 (by decide) (fun c21 => ?_) (fun c21 => ?_)
              · have hf := rd_t hf c21
                obtain rfl := Option.some.inj hf
                exact rd_vret C9 hlk hret hW ⟨rfl, rfl⟩ (by decide) (by decide) d_N_newDay_194
              · have hf := rd_f hf c21
                refine lv_aload_n hx hb d_N_newDay_175 rfl (lv_at hl 0 rfl) ?_
                refine gf_N_owner C9 hW l_N_40 d_N_newDay_176 ?_
                refine lv_iload_n hx hb d_N_newDay_179 rfl (lv_at hl 1 rfl) ?_
                obtain ⟨g22, hf⟩ := rd_g hf
                refine al_m_owner C9 hW rfl g22 d_N_newDay_180 ?_
                refine lv_istore_n (lv' := [(2, .int ((M 10).1 p1.toNatClampNeg)), (0, .ref (ad 0)), (1, .int p1)]) hx hb d_N_newDay_181 rfl hl (by decide) rfl (fun ls hl => ?_)
                refine lv_aload_n hx hb d_N_newDay_182 rfl (lv_at hl 1 rfl) ?_
                refine lv_iload_n hx hb d_N_newDay_183 rfl (lv_at hl 2 rfl) ?_
                obtain ⟨r23, qr23, hf⟩ := rd_bind hf
                refine rd_callV (As := [.int p1]) (rest := []) rd_gd C9 hTh hW (c_N_removeDomain hls p1 qr23) kc_N_removeDomain ki_N_removeDomain ks_N_removeDomain l_N_168 rfl (lt_N) (ce_N) rfl ⟨Nat.le_of_ble_eq_true rfl, Nat.le_of_ble_eq_true rfl⟩ ⟨Nat.le_of_ble_eq_true rfl, Nat.le_of_ble_eq_true rfl⟩ hl.1 rfl (Nat.le_of_ble_eq_true rfl) d_N_newDay_184 (fun E _ _ _ _ hex => hex.elim) (fun rr MM H locs hp hW => ?_)
                obtain ⟨rfl, rfl⟩ := hp
                refine lv_aload_n hx hb d_N_newDay_187 rfl (lv_at hl 1 rfl) ?_
                refine lv_iload_n hx hb d_N_newDay_188 rfl (lv_at hl 0 rfl) ?_
                refine lv_iconst (v := 4) hx hb d_N_newDay_189 (by decide) ?_
                refine lv_iload_n hx hb d_N_newDay_190 rfl (lv_at hl 2 rfl) ?_
                obtain ⟨r24, qr24, hf⟩ := rd_bind hf
                refine rd_callV (As := [.int ((M 10).1 p1.toNatClampNeg), .int 4, .int p1]) (rest := []) rd_gd C9 hTh hW (c_N_tell hls ((M 10).1 p1.toNatClampNeg) 4 p1 qr24) kc_N_tell ki_N_tell ks_N_tell l_N_171 rfl (lt_N) (ce_N) rfl ⟨Nat.le_of_ble_eq_true rfl, Nat.le_of_ble_eq_true rfl⟩ ⟨Nat.le_of_ble_eq_true rfl, Nat.le_of_ble_eq_true rfl⟩ hl.1 rfl (Nat.le_of_ble_eq_true rfl) d_N_newDay_191 (fun E _ _ _ _ hex => hex.elim) (fun rr MM H locs hp hW => ?_)
                obtain ⟨rfl, rfl⟩ := hp
                obtain rfl := Option.some.inj hf
                exact rd_vret C9 hlk hret hW ⟨rfl, rfl⟩ (by decide) (by decide) d_N_newDay_194
          · have hf := rd_f hf c17
            refine lv_aload_n hx hb d_N_newDay_132 rfl (lv_at hl 0 rfl) ?_
            refine gf_N_state C9 hW l_N_52 d_N_newDay_133 ?_
            refine lv_iload_n hx hb d_N_newDay_136 rfl (lv_at hl 1 rfl) ?_
            refine lv_iconst (v := 2) hx hb d_N_newDay_137 (by decide) ?_
            obtain ⟨g25, hf⟩ := rd_g hf
            refine as_m_state C9 hW rfl g25 d_N_newDay_138 (fun H locs hW => ?_)
            obtain ⟨M26, hM26, hf⟩ := rd_k_el hf
            rw [← hM26] at hW
            refine lv_aload_n hx hb d_N_newDay_139 rfl (lv_at hl 0 rfl) ?_
            refine gf_N_ends C9 hW l_N_55 d_N_newDay_140 ?_
            refine lv_iload_n hx hb d_N_newDay_143 rfl (lv_at hl 1 rfl) ?_
            refine lv_dup2_11 hx hb d_N_newDay_144 rfl rfl ?_
            obtain ⟨g27, hf⟩ := rd_g hf
            refine al_m_ends C9 hW rfl g27 d_N_newDay_145 ?_
            refine lv_iconst (v := 2) hx hb d_N_newDay_146 (by decide) ?_
            refine lv_iadd hx hb d_N_newDay_147 ?_
            obtain ⟨g28, hf⟩ := rd_g hf
            refine as_m_ends C9 hW rfl g28 d_N_newDay_148 (fun H locs hW => ?_)
            obtain ⟨M29, hM29, hf⟩ := rd_k_el hf
            rw [← hM29] at hW
            refine lv_goto (tgt := 194) hx hb d_N_newDay_149 (by decide) ?_
            obtain rfl := Option.some.inj hf
            exact rd_vret C9 hlk hret hW ⟨rfl, rfl⟩ (by decide) (by decide) d_N_newDay_194
      · have hf := rd_t hf c6
        refine lv_aload_n hx hb d_N_newDay_68 rfl (lv_at hl 0 rfl) ?_
        refine gf_N_expiry C9 hW l_N_43 d_N_newDay_69 ?_
        refine lv_iload_n hx hb d_N_newDay_72 rfl (lv_at hl 1 rfl) ?_
        obtain ⟨g30, hf⟩ := rd_g hf
        refine al_m_expiry C9 hW rfl g30 d_N_newDay_73 ?_
        refine lv_aload_n hx hb d_N_newDay_74 rfl (lv_at hl 0 rfl) ?_
        refine gf_N_day C9 hW l_N_98 d_N_newDay_75 ?_
        refine lv_icmp_ge (tgt := 109) hx hb d_N_newDay_78 (by decide) (fun c31 => ?_) (fun c31 => ?_)
        · have hf := rd_t hf c31
          refine lv_aload_n hx hb d_N_newDay_109 rfl (lv_at hl 0 rfl) ?_
          refine gf_N_state C9 hW l_N_52 d_N_newDay_110 ?_
          refine lv_iload_n hx hb d_N_newDay_113 rfl (lv_at hl 1 rfl) ?_
          obtain ⟨g32, hf⟩ := rd_g hf
          refine al_m_state C9 hW rfl g32 d_N_newDay_114 ?_
          refine lv_iconst (v := 1) hx hb d_N_newDay_115 (by decide) ?_
          refine lv_icmp_ne (tgt := 152) hx hb d_N_newDay_116 (by decide) (fun c33 => ?_) (fun c33 => ?_)
          · have hf := rd_f hf c33
            refine lv_aload_n hx hb d_N_newDay_152 rfl (lv_at hl 0 rfl) ?_
            refine gf_N_state C9 hW l_N_52 d_N_newDay_153 ?_
            refine lv_iload_n hx hb d_N_newDay_156 rfl (lv_at hl 1 rfl) ?_
            obtain ⟨g34, hf⟩ := rd_g hf
            refine al_m_state C9 hW rfl g34 d_N_newDay_157 ?_
            refine lv_iconst (v := 2) hx hb d_N_newDay_158 (by decide) ?_
            refine lv_icmp_ne (tgt := 194) hx hb d_N_newDay_159 (by decide) (fun c35 => ?_) (fun c35 => ?_)
            · have hf := rd_f hf c35
              obtain rfl := Option.some.inj hf
              exact rd_vret C9 hlk hret hW ⟨rfl, rfl⟩ (by decide) (by decide) d_N_newDay_194
            · have hf := rd_t hf c35
              refine lv_aload_n hx hb d_N_newDay_162 rfl (lv_at hl 0 rfl) ?_
              refine gf_N_ends C9 hW l_N_55 d_N_newDay_163 ?_
              refine lv_iload_n hx hb d_N_newDay_166 rfl (lv_at hl 1 rfl) ?_
              obtain ⟨g36, hf⟩ := rd_g hf
              refine al_m_ends C9 hW rfl g36 d_N_newDay_167 ?_
              refine lv_aload_n hx hb d_N_newDay_168 rfl (lv_at hl 0 rfl) ?_
              refine gf_N_day C9 hW l_N_98 d_N_newDay_169 ?_
              refine lv_icmp_ge (tgt := 194) hx hb d_N_newDay_172 (by decide) (fun c37 => ?_) (fun c37 => ?_)
              · have hf := rd_t hf c37
                obtain rfl := Option.some.inj hf
                exact rd_vret C9 hlk hret hW ⟨rfl, rfl⟩ (by decide) (by decide) d_N_newDay_194
              · have hf := rd_f hf c37
                refine lv_aload_n hx hb d_N_newDay_175 rfl (lv_at hl 0 rfl) ?_
                refine gf_N_owner C9 hW l_N_40 d_N_newDay_176 ?_
                refine lv_iload_n hx hb d_N_newDay_179 rfl (lv_at hl 1 rfl) ?_
                obtain ⟨g38, hf⟩ := rd_g hf
                refine al_m_owner C9 hW rfl g38 d_N_newDay_180 ?_
                refine lv_istore_n (lv' := [(2, .int ((M 10).1 p1.toNatClampNeg)), (0, .ref (ad 0)), (1, .int p1)]) hx hb d_N_newDay_181 rfl hl (by decide) rfl (fun ls hl => ?_)
                refine lv_aload_n hx hb d_N_newDay_182 rfl (lv_at hl 1 rfl) ?_
                refine lv_iload_n hx hb d_N_newDay_183 rfl (lv_at hl 2 rfl) ?_
                obtain ⟨r39, qr39, hf⟩ := rd_bind hf
                refine rd_callV (As := [.int p1]) (rest := []) rd_gd C9 hTh hW (c_N_removeDomain hls p1 qr39) kc_N_removeDomain ki_N_removeDomain ks_N_removeDomain l_N_168 rfl (lt_N) (ce_N) rfl ⟨Nat.le_of_ble_eq_true rfl, Nat.le_of_ble_eq_true rfl⟩ ⟨Nat.le_of_ble_eq_true rfl, Nat.le_of_ble_eq_true rfl⟩ hl.1 rfl (Nat.le_of_ble_eq_true rfl) d_N_newDay_184 (fun E _ _ _ _ hex => hex.elim) (fun rr MM H locs hp hW => ?_)
                obtain ⟨rfl, rfl⟩ := hp
                refine lv_aload_n hx hb d_N_newDay_187 rfl (lv_at hl 1 rfl) ?_
                refine lv_iload_n hx hb d_N_newDay_188 rfl (lv_at hl 0 rfl) ?_
                refine lv_iconst (v := 4) hx hb d_N_newDay_189 (by decide) ?_
                refine lv_iload_n hx hb d_N_newDay_190 rfl (lv_at hl 2 rfl) ?_
                obtain ⟨r40, qr40, hf⟩ := rd_bind hf
                refine rd_callV (As := [.int ((M 10).1 p1.toNatClampNeg), .int 4, .int p1]) (rest := []) rd_gd C9 hTh hW (c_N_tell hls ((M 10).1 p1.toNatClampNeg) 4 p1 qr40) kc_N_tell ki_N_tell ks_N_tell l_N_171 rfl (lt_N) (ce_N) rfl ⟨Nat.le_of_ble_eq_true rfl, Nat.le_of_ble_eq_true rfl⟩ ⟨Nat.le_of_ble_eq_true rfl, Nat.le_of_ble_eq_true rfl⟩ hl.1 rfl (Nat.le_of_ble_eq_true rfl) d_N_newDay_191 (fun E _ _ _ _ hex => hex.elim) (fun rr MM H locs hp hW => ?_)
                obtain ⟨rfl, rfl⟩ := hp
                obtain rfl := Option.some.inj hf
                exact rd_vret C9 hlk hret hW ⟨rfl, rfl⟩ (by decide) (by decide) d_N_newDay_194
          · have hf := rd_t hf c33
            refine lv_aload_n hx hb d_N_newDay_119 rfl (lv_at hl 0 rfl) ?_
            refine gf_N_ends C9 hW l_N_55 d_N_newDay_120 ?_
            refine lv_iload_n hx hb d_N_newDay_123 rfl (lv_at hl 1 rfl) ?_
            obtain ⟨g41, hf⟩ := rd_g hf
            refine al_m_ends C9 hW rfl g41 d_N_newDay_124 ?_
            refine lv_aload_n hx hb d_N_newDay_125 rfl (lv_at hl 0 rfl) ?_
            refine gf_N_day C9 hW l_N_98 d_N_newDay_126 ?_
            refine lv_icmp_ge (tgt := 152) hx hb d_N_newDay_129 (by decide) (fun c42 => ?_) (fun c42 => ?_)
            · have hf := rd_t hf c42
              refine lv_aload_n hx hb d_N_newDay_152 rfl (lv_at hl 0 rfl) ?_
              refine gf_N_state C9 hW l_N_52 d_N_newDay_153 ?_
              refine lv_iload_n hx hb d_N_newDay_156 rfl (lv_at hl 1 rfl) ?_
              obtain ⟨g43, hf⟩ := rd_g hf
              refine al_m_state C9 hW rfl g43 d_N_newDay_157 ?_
              refine lv_iconst (v := 2) hx hb d_N_newDay_158 (by decide) ?_
              refine lv_icmp_ne (tgt := 194) hx hb d_N_newDay_159 (by decide) (fun c44 => ?_) (fun c44 => ?_)
              · have hf := rd_f hf c44
                obtain rfl := Option.some.inj hf
                exact rd_vret C9 hlk hret hW ⟨rfl, rfl⟩ (by decide) (by decide) d_N_newDay_194
              · have hf := rd_t hf c44
                refine lv_aload_n hx hb d_N_newDay_162 rfl (lv_at hl 0 rfl) ?_
                refine gf_N_ends C9 hW l_N_55 d_N_newDay_163 ?_
                refine lv_iload_n hx hb d_N_newDay_166 rfl (lv_at hl 1 rfl) ?_
                obtain ⟨g45, hf⟩ := rd_g hf
                refine al_m_ends C9 hW rfl g45 d_N_newDay_167 ?_
                refine lv_aload_n hx hb d_N_newDay_168 rfl (lv_at hl 0 rfl) ?_
                refine gf_N_day C9 hW l_N_98 d_N_newDay_169 ?_
                refine lv_icmp_ge (tgt := 194) hx hb d_N_newDay_172 (by decide) (fun c46 => ?_) (fun c46 => ?_)
                · have hf := rd_t hf c46
                  obtain rfl := Option.some.inj hf
                  exact rd_vret C9 hlk hret hW ⟨rfl, rfl⟩ (by decide) (by decide) d_N_newDay_194
                · have hf := rd_f hf c46
                  refine lv_aload_n hx hb d_N_newDay_175 rfl (lv_at hl 0 rfl) ?_
                  refine gf_N_owner C9 hW l_N_40 d_N_newDay_176 ?_
                  refine lv_iload_n hx hb d_N_newDay_179 rfl (lv_at hl 1 rfl) ?_
                  obtain ⟨g47, hf⟩ := rd_g hf
                  refine al_m_owner C9 hW rfl g47 d_N_newDay_180 ?_
                  refine lv_istore_n (lv' := [(2, .int ((M 10).1 p1.toNatClampNeg)), (0, .ref (ad 0)), (1, .int p1)]) hx hb d_N_newDay_181 rfl hl (by decide) rfl (fun ls hl => ?_)
                  refine lv_aload_n hx hb d_N_newDay_182 rfl (lv_at hl 1 rfl) ?_
                  refine lv_iload_n hx hb d_N_newDay_183 rfl (lv_at hl 2 rfl) ?_
                  obtain ⟨r48, qr48, hf⟩ := rd_bind hf
                  refine rd_callV (As := [.int p1]) (rest := []) rd_gd C9 hTh hW (c_N_removeDomain hls p1 qr48) kc_N_removeDomain ki_N_removeDomain ks_N_removeDomain l_N_168 rfl (lt_N) (ce_N) rfl ⟨Nat.le_of_ble_eq_true rfl, Nat.le_of_ble_eq_true rfl⟩ ⟨Nat.le_of_ble_eq_true rfl, Nat.le_of_ble_eq_true rfl⟩ hl.1 rfl (Nat.le_of_ble_eq_true rfl) d_N_newDay_184 (fun E _ _ _ _ hex => hex.elim) (fun rr MM H locs hp hW => ?_)
                  obtain ⟨rfl, rfl⟩ := hp
                  refine lv_aload_n hx hb d_N_newDay_187 rfl (lv_at hl 1 rfl) ?_
                  refine lv_iload_n hx hb d_N_newDay_188 rfl (lv_at hl 0 rfl) ?_
                  refine lv_iconst (v := 4) hx hb d_N_newDay_189 (by decide) ?_
                  refine lv_iload_n hx hb d_N_newDay_190 rfl (lv_at hl 2 rfl) ?_
                  obtain ⟨r49, qr49, hf⟩ := rd_bind hf
                  refine rd_callV (As := [.int ((M 10).1 p1.toNatClampNeg), .int 4, .int p1]) (rest := []) rd_gd C9 hTh hW (c_N_tell hls ((M 10).1 p1.toNatClampNeg) 4 p1 qr49) kc_N_tell ki_N_tell ks_N_tell l_N_171 rfl (lt_N) (ce_N) rfl ⟨Nat.le_of_ble_eq_true rfl, Nat.le_of_ble_eq_true rfl⟩ ⟨Nat.le_of_ble_eq_true rfl, Nat.le_of_ble_eq_true rfl⟩ hl.1 rfl (Nat.le_of_ble_eq_true rfl) d_N_newDay_191 (fun E _ _ _ _ hex => hex.elim) (fun rr MM H locs hp hW => ?_)
                  obtain ⟨rfl, rfl⟩ := hp
                  obtain rfl := Option.some.inj hf
                  exact rd_vret C9 hlk hret hW ⟨rfl, rfl⟩ (by decide) (by decide) d_N_newDay_194
            · have hf := rd_f hf c42
              refine lv_aload_n hx hb d_N_newDay_132 rfl (lv_at hl 0 rfl) ?_
              refine gf_N_state C9 hW l_N_52 d_N_newDay_133 ?_
              refine lv_iload_n hx hb d_N_newDay_136 rfl (lv_at hl 1 rfl) ?_
              refine lv_iconst (v := 2) hx hb d_N_newDay_137 (by decide) ?_
              obtain ⟨g50, hf⟩ := rd_g hf
              refine as_m_state C9 hW rfl g50 d_N_newDay_138 (fun H locs hW => ?_)
              obtain ⟨M51, hM51, hf⟩ := rd_k_el hf
              rw [← hM51] at hW
              refine lv_aload_n hx hb d_N_newDay_139 rfl (lv_at hl 0 rfl) ?_
              refine gf_N_ends C9 hW l_N_55 d_N_newDay_140 ?_
              refine lv_iload_n hx hb d_N_newDay_143 rfl (lv_at hl 1 rfl) ?_
              refine lv_dup2_11 hx hb d_N_newDay_144 rfl rfl ?_
              obtain ⟨g52, hf⟩ := rd_g hf
              refine al_m_ends C9 hW rfl g52 d_N_newDay_145 ?_
              refine lv_iconst (v := 2) hx hb d_N_newDay_146 (by decide) ?_
              refine lv_iadd hx hb d_N_newDay_147 ?_
              obtain ⟨g53, hf⟩ := rd_g hf
              refine as_m_ends C9 hW rfl g53 d_N_newDay_148 (fun H locs hW => ?_)
              obtain ⟨M54, hM54, hf⟩ := rd_k_el hf
              rw [← hM54] at hW
              refine lv_goto (tgt := 194) hx hb d_N_newDay_149 (by decide) ?_
              obtain rfl := Option.some.inj hf
              exact rd_vret C9 hlk hret hW ⟨rfl, rfl⟩ (by decide) (by decide) d_N_newDay_194
        · have hf := rd_f hf c31
          refine lv_aload_n hx hb d_N_newDay_81 rfl (lv_at hl 0 rfl) ?_
          refine gf_N_expiry C9 hW l_N_43 d_N_newDay_82 ?_
          refine lv_iload_n hx hb d_N_newDay_85 rfl (lv_at hl 1 rfl) ?_
          refine lv_dup2_11 hx hb d_N_newDay_86 rfl rfl ?_
          obtain ⟨g55, hf⟩ := rd_g hf
          refine al_m_expiry C9 hW rfl g55 d_N_newDay_87 ?_
          refine lv_bipush (v := 10) hx hb d_N_newDay_88 (by decide) ?_
          refine lv_iadd hx hb d_N_newDay_90 ?_
          obtain ⟨g56, hf⟩ := rd_g hf
          refine as_m_expiry C9 hW rfl g56 d_N_newDay_91 (fun H locs hW => ?_)
          obtain ⟨M57, hM57, hf⟩ := rd_k_el hf
          rw [← hM57] at hW
          refine lv_aload_n hx hb d_N_newDay_92 rfl (lv_at hl 0 rfl) ?_
          refine lv_aload_n hx hb d_N_newDay_93 rfl (lv_at hl 0 rfl) ?_
          refine gf_N_owner C9 hW l_N_40 d_N_newDay_94 ?_
          refine lv_iload_n hx hb d_N_newDay_97 rfl (lv_at hl 1 rfl) ?_
          obtain ⟨g58, hf⟩ := rd_g hf
          refine al_m_owner C9 hW rfl g58 d_N_newDay_98 ?_
          refine lv_iconst (v := 1) hx hb d_N_newDay_99 (by decide) ?_
          refine lv_iconst (v := 1) hx hb d_N_newDay_100 (by decide) ?_
          refine lv_iload_n hx hb d_N_newDay_101 rfl (lv_at hl 1 rfl) ?_
          refine lv_iconst (v := 4) hx hb d_N_newDay_102 (by decide) ?_
          obtain ⟨r59, qr59, hf⟩ := rd_bind hf
          refine rd_callV (As := [.int ((M57 10).1 p1.toNatClampNeg), .int 1, .int 1, .int p1, .int 4]) (rest := []) rd_gd C9 hTh hW (c_N_pay hls ((M57 10).1 p1.toNatClampNeg) 1 1 p1 4 qr59) kc_N_pay ki_N_pay ks_N_pay l_N_154 rfl (lt_N) (ce_N) rfl ⟨Nat.le_of_ble_eq_true rfl, Nat.le_of_ble_eq_true rfl⟩ ⟨Nat.le_of_ble_eq_true rfl, Nat.le_of_ble_eq_true rfl⟩ hl.1 rfl (Nat.le_of_ble_eq_true rfl) d_N_newDay_103 (fun E _ _ _ _ hex => hex.elim) (fun rr MM H locs hp hW => ?_)
          obtain ⟨rfl, rfl⟩ := hp
          refine lv_goto (tgt := 194) hx hb d_N_newDay_106 (by decide) ?_
          obtain rfl := Option.some.inj hf
          exact rd_vret C9 hlk hret hW ⟨rfl, rfl⟩ (by decide) (by decide) d_N_newDay_194
    · have hf := rd_f hf c4
      refine lv_aload_n hx hb d_N_newDay_18 rfl (lv_at hl 0 rfl) ?_
      refine gf_N_till C9 hW l_N_61 d_N_newDay_19 ?_
      refine lv_iload_n hx hb d_N_newDay_22 rfl (lv_at hl 1 rfl) ?_
      obtain ⟨g60, hf⟩ := rd_g hf
      refine al_m_till C9 hW rfl g60 d_N_newDay_23 ?_
      refine lv_aload_n hx hb d_N_newDay_24 rfl (lv_at hl 0 rfl) ?_
      refine gf_N_day C9 hW l_N_98 d_N_newDay_25 ?_
      refine lv_icmp_ge (tgt := 59) hx hb d_N_newDay_28 (by decide) (fun c61 => ?_) (fun c61 => ?_)
      · have hf := rd_t hf c61
        refine lv_aload_n hx hb d_N_newDay_59 rfl (lv_at hl 0 rfl) ?_
        refine gf_N_state C9 hW l_N_52 d_N_newDay_60 ?_
        refine lv_iload_n hx hb d_N_newDay_63 rfl (lv_at hl 1 rfl) ?_
        obtain ⟨g62, hf⟩ := rd_g hf
        refine al_m_state C9 hW rfl g62 d_N_newDay_64 ?_
        refine lv_if_ne (tgt := 109) hx hb d_N_newDay_65 (by decide) (fun c63 => ?_) (fun c63 => ?_)
        · have hf := rd_f hf c63
          refine lv_aload_n hx hb d_N_newDay_109 rfl (lv_at hl 0 rfl) ?_
          refine gf_N_state C9 hW l_N_52 d_N_newDay_110 ?_
          refine lv_iload_n hx hb d_N_newDay_113 rfl (lv_at hl 1 rfl) ?_
          obtain ⟨g64, hf⟩ := rd_g hf
          refine al_m_state C9 hW rfl g64 d_N_newDay_114 ?_
          refine lv_iconst (v := 1) hx hb d_N_newDay_115 (by decide) ?_
          refine lv_icmp_ne (tgt := 152) hx hb d_N_newDay_116 (by decide) (fun c65 => ?_) (fun c65 => ?_)
          · have hf := rd_f hf c65
            refine lv_aload_n hx hb d_N_newDay_152 rfl (lv_at hl 0 rfl) ?_
            refine gf_N_state C9 hW l_N_52 d_N_newDay_153 ?_
            refine lv_iload_n hx hb d_N_newDay_156 rfl (lv_at hl 1 rfl) ?_
            obtain ⟨g66, hf⟩ := rd_g hf
            refine al_m_state C9 hW rfl g66 d_N_newDay_157 ?_
            refine lv_iconst (v := 2) hx hb d_N_newDay_158 (by decide) ?_
            refine lv_icmp_ne (tgt := 194) hx hb d_N_newDay_159 (by decide) (fun c67 => ?_) (fun c67 => ?_)
            · have hf := rd_f hf c67
              obtain rfl := Option.some.inj hf
              exact rd_vret C9 hlk hret hW ⟨rfl, rfl⟩ (by decide) (by decide) d_N_newDay_194
            · have hf := rd_t hf c67
              refine lv_aload_n hx hb d_N_newDay_162 rfl (lv_at hl 0 rfl) ?_
              refine gf_N_ends C9 hW l_N_55 d_N_newDay_163 ?_
              refine lv_iload_n hx hb d_N_newDay_166 rfl (lv_at hl 1 rfl) ?_
              obtain ⟨g68, hf⟩ := rd_g hf
              refine al_m_ends C9 hW rfl g68 d_N_newDay_167 ?_
              refine lv_aload_n hx hb d_N_newDay_168 rfl (lv_at hl 0 rfl) ?_
              refine gf_N_day C9 hW l_N_98 d_N_newDay_169 ?_
              refine lv_icmp_ge (tgt := 194) hx hb d_N_newDay_172 (by decide) (fun c69 => ?_) (fun c69 => ?_)
              · have hf := rd_t hf c69
                obtain rfl := Option.some.inj hf
                exact rd_vret C9 hlk hret hW ⟨rfl, rfl⟩ (by decide) (by decide) d_N_newDay_194
              · have hf := rd_f hf c69
                refine lv_aload_n hx hb d_N_newDay_175 rfl (lv_at hl 0 rfl) ?_
                refine gf_N_owner C9 hW l_N_40 d_N_newDay_176 ?_
                refine lv_iload_n hx hb d_N_newDay_179 rfl (lv_at hl 1 rfl) ?_
                obtain ⟨g70, hf⟩ := rd_g hf
                refine al_m_owner C9 hW rfl g70 d_N_newDay_180 ?_
                refine lv_istore_n (lv' := [(2, .int ((M 10).1 p1.toNatClampNeg)), (0, .ref (ad 0)), (1, .int p1)]) hx hb d_N_newDay_181 rfl hl (by decide) rfl (fun ls hl => ?_)
                refine lv_aload_n hx hb d_N_newDay_182 rfl (lv_at hl 1 rfl) ?_
                refine lv_iload_n hx hb d_N_newDay_183 rfl (lv_at hl 2 rfl) ?_
                obtain ⟨r71, qr71, hf⟩ := rd_bind hf
                refine rd_callV (As := [.int p1]) (rest := []) rd_gd C9 hTh hW (c_N_removeDomain hls p1 qr71) kc_N_removeDomain ki_N_removeDomain ks_N_removeDomain l_N_168 rfl (lt_N) (ce_N) rfl ⟨Nat.le_of_ble_eq_true rfl, Nat.le_of_ble_eq_true rfl⟩ ⟨Nat.le_of_ble_eq_true rfl, Nat.le_of_ble_eq_true rfl⟩ hl.1 rfl (Nat.le_of_ble_eq_true rfl) d_N_newDay_184 (fun E _ _ _ _ hex => hex.elim) (fun rr MM H locs hp hW => ?_)
                obtain ⟨rfl, rfl⟩ := hp
                refine lv_aload_n hx hb d_N_newDay_187 rfl (lv_at hl 1 rfl) ?_
                refine lv_iload_n hx hb d_N_newDay_188 rfl (lv_at hl 0 rfl) ?_
                refine lv_iconst (v := 4) hx hb d_N_newDay_189 (by decide) ?_
                refine lv_iload_n hx hb d_N_newDay_190 rfl (lv_at hl 2 rfl) ?_
                obtain ⟨r72, qr72, hf⟩ := rd_bind hf
                refine rd_callV (As := [.int ((M 10).1 p1.toNatClampNeg), .int 4, .int p1]) (rest := []) rd_gd C9 hTh hW (c_N_tell hls ((M 10).1 p1.toNatClampNeg) 4 p1 qr72) kc_N_tell ki_N_tell ks_N_tell l_N_171 rfl (lt_N) (ce_N) rfl ⟨Nat.le_of_ble_eq_true rfl, Nat.le_of_ble_eq_true rfl⟩ ⟨Nat.le_of_ble_eq_true rfl, Nat.le_of_ble_eq_true rfl⟩ hl.1 rfl (Nat.le_of_ble_eq_true rfl) d_N_newDay_191 (fun E _ _ _ _ hex => hex.elim) (fun rr MM H locs hp hW => ?_)
                obtain ⟨rfl, rfl⟩ := hp
                obtain rfl := Option.some.inj hf
                exact rd_vret C9 hlk hret hW ⟨rfl, rfl⟩ (by decide) (by decide) d_N_newDay_194
          · have hf := rd_t hf c65
            refine lv_aload_n hx hb d_N_newDay_119 rfl (lv_at hl 0 rfl) ?_
            refine gf_N_ends C9 hW l_N_55 d_N_newDay_120 ?_
            refine lv_iload_n hx hb d_N_newDay_123 rfl (lv_at hl 1 rfl) ?_
            obtain ⟨g73, hf⟩ := rd_g hf
            refine al_m_ends C9 hW rfl g73 d_N_newDay_124 ?_
            refine lv_aload_n hx hb d_N_newDay_125 rfl (lv_at hl 0 rfl) ?_
            refine gf_N_day C9 hW l_N_98 d_N_newDay_126 ?_
            refine lv_icmp_ge (tgt := 152) hx hb d_N_newDay_129 (by decide) (fun c74 => ?_) (fun c74 => ?_)
            · have hf := rd_t hf c74
              refine lv_aload_n hx hb d_N_newDay_152 rfl (lv_at hl 0 rfl) ?_
              refine gf_N_state C9 hW l_N_52 d_N_newDay_153 ?_
              refine lv_iload_n hx hb d_N_newDay_156 rfl (lv_at hl 1 rfl) ?_
              obtain ⟨g75, hf⟩ := rd_g hf
              refine al_m_state C9 hW rfl g75 d_N_newDay_157 ?_
              refine lv_iconst (v := 2) hx hb d_N_newDay_158 (by decide) ?_
              refine lv_icmp_ne (tgt := 194) hx hb d_N_newDay_159 (by decide) (fun c76 => ?_) (fun c76 => ?_)
              · have hf := rd_f hf c76
                obtain rfl := Option.some.inj hf
                exact rd_vret C9 hlk hret hW ⟨rfl, rfl⟩ (by decide) (by decide) d_N_newDay_194
              · have hf := rd_t hf c76
                refine lv_aload_n hx hb d_N_newDay_162 rfl (lv_at hl 0 rfl) ?_
                refine gf_N_ends C9 hW l_N_55 d_N_newDay_163 ?_
                refine lv_iload_n hx hb d_N_newDay_166 rfl (lv_at hl 1 rfl) ?_
                obtain ⟨g77, hf⟩ := rd_g hf
                refine al_m_ends C9 hW rfl g77 d_N_newDay_167 ?_
                refine lv_aload_n hx hb d_N_newDay_168 rfl (lv_at hl 0 rfl) ?_
                refine gf_N_day C9 hW l_N_98 d_N_newDay_169 ?_
                refine lv_icmp_ge (tgt := 194) hx hb d_N_newDay_172 (by decide) (fun c78 => ?_) (fun c78 => ?_)
                · have hf := rd_t hf c78
                  obtain rfl := Option.some.inj hf
                  exact rd_vret C9 hlk hret hW ⟨rfl, rfl⟩ (by decide) (by decide) d_N_newDay_194
                · have hf := rd_f hf c78
                  refine lv_aload_n hx hb d_N_newDay_175 rfl (lv_at hl 0 rfl) ?_
                  refine gf_N_owner C9 hW l_N_40 d_N_newDay_176 ?_
                  refine lv_iload_n hx hb d_N_newDay_179 rfl (lv_at hl 1 rfl) ?_
                  obtain ⟨g79, hf⟩ := rd_g hf
                  refine al_m_owner C9 hW rfl g79 d_N_newDay_180 ?_
                  refine lv_istore_n (lv' := [(2, .int ((M 10).1 p1.toNatClampNeg)), (0, .ref (ad 0)), (1, .int p1)]) hx hb d_N_newDay_181 rfl hl (by decide) rfl (fun ls hl => ?_)
                  refine lv_aload_n hx hb d_N_newDay_182 rfl (lv_at hl 1 rfl) ?_
                  refine lv_iload_n hx hb d_N_newDay_183 rfl (lv_at hl 2 rfl) ?_
                  obtain ⟨r80, qr80, hf⟩ := rd_bind hf
                  refine rd_callV (As := [.int p1]) (rest := []) rd_gd C9 hTh hW (c_N_removeDomain hls p1 qr80) kc_N_removeDomain ki_N_removeDomain ks_N_removeDomain l_N_168 rfl (lt_N) (ce_N) rfl ⟨Nat.le_of_ble_eq_true rfl, Nat.le_of_ble_eq_true rfl⟩ ⟨Nat.le_of_ble_eq_true rfl, Nat.le_of_ble_eq_true rfl⟩ hl.1 rfl (Nat.le_of_ble_eq_true rfl) d_N_newDay_184 (fun E _ _ _ _ hex => hex.elim) (fun rr MM H locs hp hW => ?_)
                  obtain ⟨rfl, rfl⟩ := hp
                  refine lv_aload_n hx hb d_N_newDay_187 rfl (lv_at hl 1 rfl) ?_
                  refine lv_iload_n hx hb d_N_newDay_188 rfl (lv_at hl 0 rfl) ?_
                  refine lv_iconst (v := 4) hx hb d_N_newDay_189 (by decide) ?_
                  refine lv_iload_n hx hb d_N_newDay_190 rfl (lv_at hl 2 rfl) ?_
                  obtain ⟨r81, qr81, hf⟩ := rd_bind hf
                  refine rd_callV (As := [.int ((M 10).1 p1.toNatClampNeg), .int 4, .int p1]) (rest := []) rd_gd C9 hTh hW (c_N_tell hls ((M 10).1 p1.toNatClampNeg) 4 p1 qr81) kc_N_tell ki_N_tell ks_N_tell l_N_171 rfl (lt_N) (ce_N) rfl ⟨Nat.le_of_ble_eq_true rfl, Nat.le_of_ble_eq_true rfl⟩ ⟨Nat.le_of_ble_eq_true rfl, Nat.le_of_ble_eq_true rfl⟩ hl.1 rfl (Nat.le_of_ble_eq_true rfl) d_N_newDay_191 (fun E _ _ _ _ hex => hex.elim) (fun rr MM H locs hp hW => ?_)
                  obtain ⟨rfl, rfl⟩ := hp
                  obtain rfl := Option.some.inj hf
                  exact rd_vret C9 hlk hret hW ⟨rfl, rfl⟩ (by decide) (by decide) d_N_newDay_194
            · have hf := rd_f hf c74
              refine lv_aload_n hx hb d_N_newDay_132 rfl (lv_at hl 0 rfl) ?_
              refine gf_N_state C9 hW l_N_52 d_N_newDay_133 ?_
              refine lv_iload_n hx hb d_N_newDay_136 rfl (lv_at hl 1 rfl) ?_
              refine lv_iconst (v := 2) hx hb d_N_newDay_137 (by decide) ?_
              obtain ⟨g82, hf⟩ := rd_g hf
              refine as_m_state C9 hW rfl g82 d_N_newDay_138 (fun H locs hW => ?_)
              obtain ⟨M83, hM83, hf⟩ := rd_k_el hf
              rw [← hM83] at hW
              refine lv_aload_n hx hb d_N_newDay_139 rfl (lv_at hl 0 rfl) ?_
              refine gf_N_ends C9 hW l_N_55 d_N_newDay_140 ?_
              refine lv_iload_n hx hb d_N_newDay_143 rfl (lv_at hl 1 rfl) ?_
              refine lv_dup2_11 hx hb d_N_newDay_144 rfl rfl ?_
              obtain ⟨g84, hf⟩ := rd_g hf
              refine al_m_ends C9 hW rfl g84 d_N_newDay_145 ?_
              refine lv_iconst (v := 2) hx hb d_N_newDay_146 (by decide) ?_
              refine lv_iadd hx hb d_N_newDay_147 ?_
              obtain ⟨g85, hf⟩ := rd_g hf
              refine as_m_ends C9 hW rfl g85 d_N_newDay_148 (fun H locs hW => ?_)
              obtain ⟨M86, hM86, hf⟩ := rd_k_el hf
              rw [← hM86] at hW
              refine lv_goto (tgt := 194) hx hb d_N_newDay_149 (by decide) ?_
              obtain rfl := Option.some.inj hf
              exact rd_vret C9 hlk hret hW ⟨rfl, rfl⟩ (by decide) (by decide) d_N_newDay_194
        · have hf := rd_t hf c63
          refine lv_aload_n hx hb d_N_newDay_68 rfl (lv_at hl 0 rfl) ?_
          refine gf_N_expiry C9 hW l_N_43 d_N_newDay_69 ?_
          refine lv_iload_n hx hb d_N_newDay_72 rfl (lv_at hl 1 rfl) ?_
          obtain ⟨g87, hf⟩ := rd_g hf
          refine al_m_expiry C9 hW rfl g87 d_N_newDay_73 ?_
          refine lv_aload_n hx hb d_N_newDay_74 rfl (lv_at hl 0 rfl) ?_
          refine gf_N_day C9 hW l_N_98 d_N_newDay_75 ?_
          refine lv_icmp_ge (tgt := 109) hx hb d_N_newDay_78 (by decide) (fun c88 => ?_) (fun c88 => ?_)
          · have hf := rd_t hf c88
            refine lv_aload_n hx hb d_N_newDay_109 rfl (lv_at hl 0 rfl) ?_
            refine gf_N_state C9 hW l_N_52 d_N_newDay_110 ?_
            refine lv_iload_n hx hb d_N_newDay_113 rfl (lv_at hl 1 rfl) ?_
            obtain ⟨g89, hf⟩ := rd_g hf
            refine al_m_state C9 hW rfl g89 d_N_newDay_114 ?_
            refine lv_iconst (v := 1) hx hb d_N_newDay_115 (by decide) ?_
            refine lv_icmp_ne (tgt := 152) hx hb d_N_newDay_116 (by decide) (fun c90 => ?_) (fun c90 => ?_)
            · have hf := rd_f hf c90
              refine lv_aload_n hx hb d_N_newDay_152 rfl (lv_at hl 0 rfl) ?_
              refine gf_N_state C9 hW l_N_52 d_N_newDay_153 ?_
              refine lv_iload_n hx hb d_N_newDay_156 rfl (lv_at hl 1 rfl) ?_
              obtain ⟨g91, hf⟩ := rd_g hf
              refine al_m_state C9 hW rfl g91 d_N_newDay_157 ?_
              refine lv_iconst (v := 2) hx hb d_N_newDay_158 (by decide) ?_
              refine lv_icmp_ne (tgt := 194) hx hb d_N_newDay_159 (by decide) (fun c92 => ?_) (fun c92 => ?_)
              · have hf := rd_f hf c92
                obtain rfl := Option.some.inj hf
                exact rd_vret C9 hlk hret hW ⟨rfl, rfl⟩ (by decide) (by decide) d_N_newDay_194
              · have hf := rd_t hf c92
                refine lv_aload_n hx hb d_N_newDay_162 rfl (lv_at hl 0 rfl) ?_
                refine gf_N_ends C9 hW l_N_55 d_N_newDay_163 ?_
                refine lv_iload_n hx hb d_N_newDay_166 rfl (lv_at hl 1 rfl) ?_
                obtain ⟨g93, hf⟩ := rd_g hf
                refine al_m_ends C9 hW rfl g93 d_N_newDay_167 ?_
                refine lv_aload_n hx hb d_N_newDay_168 rfl (lv_at hl 0 rfl) ?_
                refine gf_N_day C9 hW l_N_98 d_N_newDay_169 ?_
                refine lv_icmp_ge (tgt := 194) hx hb d_N_newDay_172 (by decide) (fun c94 => ?_) (fun c94 => ?_)
                · have hf := rd_t hf c94
                  obtain rfl := Option.some.inj hf
                  exact rd_vret C9 hlk hret hW ⟨rfl, rfl⟩ (by decide) (by decide) d_N_newDay_194
                · have hf := rd_f hf c94
                  refine lv_aload_n hx hb d_N_newDay_175 rfl (lv_at hl 0 rfl) ?_
                  refine gf_N_owner C9 hW l_N_40 d_N_newDay_176 ?_
                  refine lv_iload_n hx hb d_N_newDay_179 rfl (lv_at hl 1 rfl) ?_
                  obtain ⟨g95, hf⟩ := rd_g hf
                  refine al_m_owner C9 hW rfl g95 d_N_newDay_180 ?_
                  refine lv_istore_n (lv' := [(2, .int ((M 10).1 p1.toNatClampNeg)), (0, .ref (ad 0)), (1, .int p1)]) hx hb d_N_newDay_181 rfl hl (by decide) rfl (fun ls hl => ?_)
                  refine lv_aload_n hx hb d_N_newDay_182 rfl (lv_at hl 1 rfl) ?_
                  refine lv_iload_n hx hb d_N_newDay_183 rfl (lv_at hl 2 rfl) ?_
                  obtain ⟨r96, qr96, hf⟩ := rd_bind hf
                  refine rd_callV (As := [.int p1]) (rest := []) rd_gd C9 hTh hW (c_N_removeDomain hls p1 qr96) kc_N_removeDomain ki_N_removeDomain ks_N_removeDomain l_N_168 rfl (lt_N) (ce_N) rfl ⟨Nat.le_of_ble_eq_true rfl, Nat.le_of_ble_eq_true rfl⟩ ⟨Nat.le_of_ble_eq_true rfl, Nat.le_of_ble_eq_true rfl⟩ hl.1 rfl (Nat.le_of_ble_eq_true rfl) d_N_newDay_184 (fun E _ _ _ _ hex => hex.elim) (fun rr MM H locs hp hW => ?_)
                  obtain ⟨rfl, rfl⟩ := hp
                  refine lv_aload_n hx hb d_N_newDay_187 rfl (lv_at hl 1 rfl) ?_
                  refine lv_iload_n hx hb d_N_newDay_188 rfl (lv_at hl 0 rfl) ?_
                  refine lv_iconst (v := 4) hx hb d_N_newDay_189 (by decide) ?_
                  refine lv_iload_n hx hb d_N_newDay_190 rfl (lv_at hl 2 rfl) ?_
                  obtain ⟨r97, qr97, hf⟩ := rd_bind hf
                  refine rd_callV (As := [.int ((M 10).1 p1.toNatClampNeg), .int 4, .int p1]) (rest := []) rd_gd C9 hTh hW (c_N_tell hls ((M 10).1 p1.toNatClampNeg) 4 p1 qr97) kc_N_tell ki_N_tell ks_N_tell l_N_171 rfl (lt_N) (ce_N) rfl ⟨Nat.le_of_ble_eq_true rfl, Nat.le_of_ble_eq_true rfl⟩ ⟨Nat.le_of_ble_eq_true rfl, Nat.le_of_ble_eq_true rfl⟩ hl.1 rfl (Nat.le_of_ble_eq_true rfl) d_N_newDay_191 (fun E _ _ _ _ hex => hex.elim) (fun rr MM H locs hp hW => ?_)
                  obtain ⟨rfl, rfl⟩ := hp
                  obtain rfl := Option.some.inj hf
                  exact rd_vret C9 hlk hret hW ⟨rfl, rfl⟩ (by decide) (by decide) d_N_newDay_194
            · have hf := rd_t hf c90
              refine lv_aload_n hx hb d_N_newDay_119 rfl (lv_at hl 0 rfl) ?_
              refine gf_N_ends C9 hW l_N_55 d_N_newDay_120 ?_
              refine lv_iload_n hx hb d_N_newDay_123 rfl (lv_at hl 1 rfl) ?_
              obtain ⟨g98, hf⟩ := rd_g hf
              refine al_m_ends C9 hW rfl g98 d_N_newDay_124 ?_
              refine lv_aload_n hx hb d_N_newDay_125 rfl (lv_at hl 0 rfl) ?_
              refine gf_N_day C9 hW l_N_98 d_N_newDay_126 ?_
              refine lv_icmp_ge (tgt := 152) hx hb d_N_newDay_129 (by decide) (fun c99 => ?_) (fun c99 => ?_)
              · have hf := rd_t hf c99
                refine lv_aload_n hx hb d_N_newDay_152 rfl (lv_at hl 0 rfl) ?_
                refine gf_N_state C9 hW l_N_52 d_N_newDay_153 ?_
                refine lv_iload_n hx hb d_N_newDay_156 rfl (lv_at hl 1 rfl) ?_
                obtain ⟨g100, hf⟩ := rd_g hf
                refine al_m_state C9 hW rfl g100 d_N_newDay_157 ?_
                refine lv_iconst (v := 2) hx hb d_N_newDay_158 (by decide) ?_
                refine lv_icmp_ne (tgt := 194) hx hb d_N_newDay_159 (by decide) (fun c101 => ?_) (fun c101 => ?_)
                · have hf := rd_f hf c101
                  obtain rfl := Option.some.inj hf
                  exact rd_vret C9 hlk hret hW ⟨rfl, rfl⟩ (by decide) (by decide) d_N_newDay_194
                · have hf := rd_t hf c101
                  refine lv_aload_n hx hb d_N_newDay_162 rfl (lv_at hl 0 rfl) ?_
                  refine gf_N_ends C9 hW l_N_55 d_N_newDay_163 ?_
                  refine lv_iload_n hx hb d_N_newDay_166 rfl (lv_at hl 1 rfl) ?_
                  obtain ⟨g102, hf⟩ := rd_g hf
                  refine al_m_ends C9 hW rfl g102 d_N_newDay_167 ?_
                  refine lv_aload_n hx hb d_N_newDay_168 rfl (lv_at hl 0 rfl) ?_
                  refine gf_N_day C9 hW l_N_98 d_N_newDay_169 ?_
                  refine lv_icmp_ge (tgt := 194) hx hb d_N_newDay_172 (by decide) (fun c103 => ?_) (fun c103 => ?_)
                  · have hf := rd_t hf c103
                    obtain rfl := Option.some.inj hf
                    exact rd_vret C9 hlk hret hW ⟨rfl, rfl⟩ (by decide) (by decide) d_N_newDay_194
                  · have hf := rd_f hf c103
                    refine lv_aload_n hx hb d_N_newDay_175 rfl (lv_at hl 0 rfl) ?_
                    refine gf_N_owner C9 hW l_N_40 d_N_newDay_176 ?_
                    refine lv_iload_n hx hb d_N_newDay_179 rfl (lv_at hl 1 rfl) ?_
                    obtain ⟨g104, hf⟩ := rd_g hf
                    refine al_m_owner C9 hW rfl g104 d_N_newDay_180 ?_
                    refine lv_istore_n (lv' := [(2, .int ((M 10).1 p1.toNatClampNeg)), (0, .ref (ad 0)), (1, .int p1)]) hx hb d_N_newDay_181 rfl hl (by decide) rfl (fun ls hl => ?_)
                    refine lv_aload_n hx hb d_N_newDay_182 rfl (lv_at hl 1 rfl) ?_
                    refine lv_iload_n hx hb d_N_newDay_183 rfl (lv_at hl 2 rfl) ?_
                    obtain ⟨r105, qr105, hf⟩ := rd_bind hf
                    refine rd_callV (As := [.int p1]) (rest := []) rd_gd C9 hTh hW (c_N_removeDomain hls p1 qr105) kc_N_removeDomain ki_N_removeDomain ks_N_removeDomain l_N_168 rfl (lt_N) (ce_N) rfl ⟨Nat.le_of_ble_eq_true rfl, Nat.le_of_ble_eq_true rfl⟩ ⟨Nat.le_of_ble_eq_true rfl, Nat.le_of_ble_eq_true rfl⟩ hl.1 rfl (Nat.le_of_ble_eq_true rfl) d_N_newDay_184 (fun E _ _ _ _ hex => hex.elim) (fun rr MM H locs hp hW => ?_)
                    obtain ⟨rfl, rfl⟩ := hp
                    refine lv_aload_n hx hb d_N_newDay_187 rfl (lv_at hl 1 rfl) ?_
                    refine lv_iload_n hx hb d_N_newDay_188 rfl (lv_at hl 0 rfl) ?_
                    refine lv_iconst (v := 4) hx hb d_N_newDay_189 (by decide) ?_
                    refine lv_iload_n hx hb d_N_newDay_190 rfl (lv_at hl 2 rfl) ?_
                    obtain ⟨r106, qr106, hf⟩ := rd_bind hf
                    refine rd_callV (As := [.int ((M 10).1 p1.toNatClampNeg), .int 4, .int p1]) (rest := []) rd_gd C9 hTh hW (c_N_tell hls ((M 10).1 p1.toNatClampNeg) 4 p1 qr106) kc_N_tell ki_N_tell ks_N_tell l_N_171 rfl (lt_N) (ce_N) rfl ⟨Nat.le_of_ble_eq_true rfl, Nat.le_of_ble_eq_true rfl⟩ ⟨Nat.le_of_ble_eq_true rfl, Nat.le_of_ble_eq_true rfl⟩ hl.1 rfl (Nat.le_of_ble_eq_true rfl) d_N_newDay_191 (fun E _ _ _ _ hex => hex.elim) (fun rr MM H locs hp hW => ?_)
                    obtain ⟨rfl, rfl⟩ := hp
                    obtain rfl := Option.some.inj hf
                    exact rd_vret C9 hlk hret hW ⟨rfl, rfl⟩ (by decide) (by decide) d_N_newDay_194
              · have hf := rd_f hf c99
                refine lv_aload_n hx hb d_N_newDay_132 rfl (lv_at hl 0 rfl) ?_
                refine gf_N_state C9 hW l_N_52 d_N_newDay_133 ?_
                refine lv_iload_n hx hb d_N_newDay_136 rfl (lv_at hl 1 rfl) ?_
                refine lv_iconst (v := 2) hx hb d_N_newDay_137 (by decide) ?_
                obtain ⟨g107, hf⟩ := rd_g hf
                refine as_m_state C9 hW rfl g107 d_N_newDay_138 (fun H locs hW => ?_)
                obtain ⟨M108, hM108, hf⟩ := rd_k_el hf
                rw [← hM108] at hW
                refine lv_aload_n hx hb d_N_newDay_139 rfl (lv_at hl 0 rfl) ?_
                refine gf_N_ends C9 hW l_N_55 d_N_newDay_140 ?_
                refine lv_iload_n hx hb d_N_newDay_143 rfl (lv_at hl 1 rfl) ?_
                refine lv_dup2_11 hx hb d_N_newDay_144 rfl rfl ?_
                obtain ⟨g109, hf⟩ := rd_g hf
                refine al_m_ends C9 hW rfl g109 d_N_newDay_145 ?_
                refine lv_iconst (v := 2) hx hb d_N_newDay_146 (by decide) ?_
                refine lv_iadd hx hb d_N_newDay_147 ?_
                obtain ⟨g110, hf⟩ := rd_g hf
                refine as_m_ends C9 hW rfl g110 d_N_newDay_148 (fun H locs hW => ?_)
                obtain ⟨M111, hM111, hf⟩ := rd_k_el hf
                rw [← hM111] at hW
                refine lv_goto (tgt := 194) hx hb d_N_newDay_149 (by decide) ?_
                obtain rfl := Option.some.inj hf
                exact rd_vret C9 hlk hret hW ⟨rfl, rfl⟩ (by decide) (by decide) d_N_newDay_194
          · have hf := rd_f hf c88
            refine lv_aload_n hx hb d_N_newDay_81 rfl (lv_at hl 0 rfl) ?_
            refine gf_N_expiry C9 hW l_N_43 d_N_newDay_82 ?_
            refine lv_iload_n hx hb d_N_newDay_85 rfl (lv_at hl 1 rfl) ?_
            refine lv_dup2_11 hx hb d_N_newDay_86 rfl rfl ?_
            obtain ⟨g112, hf⟩ := rd_g hf
            refine al_m_expiry C9 hW rfl g112 d_N_newDay_87 ?_
            refine lv_bipush (v := 10) hx hb d_N_newDay_88 (by decide) ?_
            refine lv_iadd hx hb d_N_newDay_90 ?_
            obtain ⟨g113, hf⟩ := rd_g hf
            refine as_m_expiry C9 hW rfl g113 d_N_newDay_91 (fun H locs hW => ?_)
            obtain ⟨M114, hM114, hf⟩ := rd_k_el hf
            rw [← hM114] at hW
            refine lv_aload_n hx hb d_N_newDay_92 rfl (lv_at hl 0 rfl) ?_
            refine lv_aload_n hx hb d_N_newDay_93 rfl (lv_at hl 0 rfl) ?_
            refine gf_N_owner C9 hW l_N_40 d_N_newDay_94 ?_
            refine lv_iload_n hx hb d_N_newDay_97 rfl (lv_at hl 1 rfl) ?_
            obtain ⟨g115, hf⟩ := rd_g hf
            refine al_m_owner C9 hW rfl g115 d_N_newDay_98 ?_
            refine lv_iconst (v := 1) hx hb d_N_newDay_99 (by decide) ?_
            refine lv_iconst (v := 1) hx hb d_N_newDay_100 (by decide) ?_
            refine lv_iload_n hx hb d_N_newDay_101 rfl (lv_at hl 1 rfl) ?_
            refine lv_iconst (v := 4) hx hb d_N_newDay_102 (by decide) ?_
            obtain ⟨r116, qr116, hf⟩ := rd_bind hf
            refine rd_callV (As := [.int ((M114 10).1 p1.toNatClampNeg), .int 1, .int 1, .int p1, .int 4]) (rest := []) rd_gd C9 hTh hW (c_N_pay hls ((M114 10).1 p1.toNatClampNeg) 1 1 p1 4 qr116) kc_N_pay ki_N_pay ks_N_pay l_N_154 rfl (lt_N) (ce_N) rfl ⟨Nat.le_of_ble_eq_true rfl, Nat.le_of_ble_eq_true rfl⟩ ⟨Nat.le_of_ble_eq_true rfl, Nat.le_of_ble_eq_true rfl⟩ hl.1 rfl (Nat.le_of_ble_eq_true rfl) d_N_newDay_103 (fun E _ _ _ _ hex => hex.elim) (fun rr MM H locs hp hW => ?_)
            obtain ⟨rfl, rfl⟩ := hp
            refine lv_goto (tgt := 194) hx hb d_N_newDay_106 (by decide) ?_
            obtain rfl := Option.some.inj hf
            exact rd_vret C9 hlk hret hW ⟨rfl, rfl⟩ (by decide) (by decide) d_N_newDay_194
      · have hf := rd_f hf c61
        refine lv_aload_n hx hb d_N_newDay_31 rfl (lv_at hl 0 rfl) ?_
        refine lv_aload_n hx hb d_N_newDay_32 rfl (lv_at hl 0 rfl) ?_
        refine gf_N_wants C9 hW l_N_58 d_N_newDay_33 ?_
        refine lv_iload_n hx hb d_N_newDay_36 rfl (lv_at hl 1 rfl) ?_
        obtain ⟨g117, hf⟩ := rd_g hf
        refine al_m_wants C9 hW rfl g117 d_N_newDay_37 ?_
        refine lv_iconst (v := 2) hx hb d_N_newDay_38 (by decide) ?_
        refine lv_iconst (v := 1) hx hb d_N_newDay_39 (by decide) ?_
        obtain ⟨r118, qr118, hf⟩ := rd_bind hf
        refine rd_callV (As := [.int ((M 16).1 p1.toNatClampNeg), .int 2, .int 1]) (rest := []) rd_gd C9 hTh hW (c_N_canPay hls ((M 16).1 p1.toNatClampNeg) 2 1 qr118) kc_N_canPay ki_N_canPay ks_N_canPay l_N_148 rfl (lt_N) (ce_N) rfl ⟨Nat.le_of_ble_eq_true rfl, Nat.le_of_ble_eq_true rfl⟩ ⟨Nat.le_of_ble_eq_true rfl, Nat.le_of_ble_eq_true rfl⟩ hl.1 rfl (Nat.le_of_ble_eq_true rfl) d_N_newDay_40 (fun E _ _ _ _ hex => hex.elim) (fun rr MM H locs hp hW => ?_)
        obtain ⟨rfl, rfl⟩ := hp
        refine lv_if_eq (tgt := 54) hx hb d_N_newDay_43 (by decide) (fun c119 => ?_) (fun c119 => ?_)
        · have hf := rd_t hf c119
          refine lv_aload_n hx hb d_N_newDay_54 rfl (lv_at hl 0 rfl) ?_
          refine lv_iload_n hx hb d_N_newDay_55 rfl (lv_at hl 1 rfl) ?_
          obtain ⟨r120, qr120, hf⟩ := rd_bind hf
          refine rd_callV (As := [.int p1]) (rest := []) rd_gd C9 hTh hW (c_N_endTransfer hls p1 qr120) kc_N_endTransfer ki_N_endTransfer ks_N_endTransfer l_N_177 rfl (lt_N) (ce_N) rfl ⟨Nat.le_of_ble_eq_true rfl, Nat.le_of_ble_eq_true rfl⟩ ⟨Nat.le_of_ble_eq_true rfl, Nat.le_of_ble_eq_true rfl⟩ hl.1 rfl (Nat.le_of_ble_eq_true rfl) d_N_newDay_56 (fun E _ _ _ _ hex => hex.elim) (fun rr MM H locs hp hW => ?_)
          obtain ⟨rfl, rfl⟩ := hp
          refine lv_aload_n hx hb d_N_newDay_59 rfl (lv_at hl 0 rfl) ?_
          refine gf_N_state C9 hW l_N_52 d_N_newDay_60 ?_
          refine lv_iload_n hx hb d_N_newDay_63 rfl (lv_at hl 1 rfl) ?_
          obtain ⟨g121, hf⟩ := rd_g hf
          refine al_m_state C9 hW rfl g121 d_N_newDay_64 ?_
          refine lv_if_ne (tgt := 109) hx hb d_N_newDay_65 (by decide) (fun c122 => ?_) (fun c122 => ?_)
          · have hf := rd_f hf c122
            refine lv_aload_n hx hb d_N_newDay_109 rfl (lv_at hl 0 rfl) ?_
            refine gf_N_state C9 hW l_N_52 d_N_newDay_110 ?_
            refine lv_iload_n hx hb d_N_newDay_113 rfl (lv_at hl 1 rfl) ?_
            obtain ⟨g123, hf⟩ := rd_g hf
            refine al_m_state C9 hW rfl g123 d_N_newDay_114 ?_
            refine lv_iconst (v := 1) hx hb d_N_newDay_115 (by decide) ?_
            refine lv_icmp_ne (tgt := 152) hx hb d_N_newDay_116 (by decide) (fun c124 => ?_) (fun c124 => ?_)
            · have hf := rd_f hf c124
              refine lv_aload_n hx hb d_N_newDay_152 rfl (lv_at hl 0 rfl) ?_
              refine gf_N_state C9 hW l_N_52 d_N_newDay_153 ?_
              refine lv_iload_n hx hb d_N_newDay_156 rfl (lv_at hl 1 rfl) ?_
              obtain ⟨g125, hf⟩ := rd_g hf
              refine al_m_state C9 hW rfl g125 d_N_newDay_157 ?_
              refine lv_iconst (v := 2) hx hb d_N_newDay_158 (by decide) ?_
              refine lv_icmp_ne (tgt := 194) hx hb d_N_newDay_159 (by decide) (fun c126 => ?_) (fun c126 => ?_)
              · have hf := rd_f hf c126
                obtain rfl := Option.some.inj hf
                exact rd_vret C9 hlk hret hW ⟨rfl, rfl⟩ (by decide) (by decide) d_N_newDay_194
              · have hf := rd_t hf c126
                refine lv_aload_n hx hb d_N_newDay_162 rfl (lv_at hl 0 rfl) ?_
                refine gf_N_ends C9 hW l_N_55 d_N_newDay_163 ?_
                refine lv_iload_n hx hb d_N_newDay_166 rfl (lv_at hl 1 rfl) ?_
                obtain ⟨g127, hf⟩ := rd_g hf
                refine al_m_ends C9 hW rfl g127 d_N_newDay_167 ?_
                refine lv_aload_n hx hb d_N_newDay_168 rfl (lv_at hl 0 rfl) ?_
                refine gf_N_day C9 hW l_N_98 d_N_newDay_169 ?_
                refine lv_icmp_ge (tgt := 194) hx hb d_N_newDay_172 (by decide) (fun c128 => ?_) (fun c128 => ?_)
                · have hf := rd_t hf c128
                  obtain rfl := Option.some.inj hf
                  exact rd_vret C9 hlk hret hW ⟨rfl, rfl⟩ (by decide) (by decide) d_N_newDay_194
                · have hf := rd_f hf c128
                  refine lv_aload_n hx hb d_N_newDay_175 rfl (lv_at hl 0 rfl) ?_
                  refine gf_N_owner C9 hW l_N_40 d_N_newDay_176 ?_
                  refine lv_iload_n hx hb d_N_newDay_179 rfl (lv_at hl 1 rfl) ?_
                  obtain ⟨g129, hf⟩ := rd_g hf
                  refine al_m_owner C9 hW rfl g129 d_N_newDay_180 ?_
                  refine lv_istore_n (lv' := [(2, .int ((r120 10).1 p1.toNatClampNeg)), (0, .ref (ad 0)), (1, .int p1)]) hx hb d_N_newDay_181 rfl hl (by decide) rfl (fun ls hl => ?_)
                  refine lv_aload_n hx hb d_N_newDay_182 rfl (lv_at hl 1 rfl) ?_
                  refine lv_iload_n hx hb d_N_newDay_183 rfl (lv_at hl 2 rfl) ?_
                  obtain ⟨r130, qr130, hf⟩ := rd_bind hf
                  refine rd_callV (As := [.int p1]) (rest := []) rd_gd C9 hTh hW (c_N_removeDomain hls p1 qr130) kc_N_removeDomain ki_N_removeDomain ks_N_removeDomain l_N_168 rfl (lt_N) (ce_N) rfl ⟨Nat.le_of_ble_eq_true rfl, Nat.le_of_ble_eq_true rfl⟩ ⟨Nat.le_of_ble_eq_true rfl, Nat.le_of_ble_eq_true rfl⟩ hl.1 rfl (Nat.le_of_ble_eq_true rfl) d_N_newDay_184 (fun E _ _ _ _ hex => hex.elim) (fun rr MM H locs hp hW => ?_)
                  obtain ⟨rfl, rfl⟩ := hp
                  refine lv_aload_n hx hb d_N_newDay_187 rfl (lv_at hl 1 rfl) ?_
                  refine lv_iload_n hx hb d_N_newDay_188 rfl (lv_at hl 0 rfl) ?_
                  refine lv_iconst (v := 4) hx hb d_N_newDay_189 (by decide) ?_
                  refine lv_iload_n hx hb d_N_newDay_190 rfl (lv_at hl 2 rfl) ?_
                  obtain ⟨r131, qr131, hf⟩ := rd_bind hf
                  refine rd_callV (As := [.int ((r120 10).1 p1.toNatClampNeg), .int 4, .int p1]) (rest := []) rd_gd C9 hTh hW (c_N_tell hls ((r120 10).1 p1.toNatClampNeg) 4 p1 qr131) kc_N_tell ki_N_tell ks_N_tell l_N_171 rfl (lt_N) (ce_N) rfl ⟨Nat.le_of_ble_eq_true rfl, Nat.le_of_ble_eq_true rfl⟩ ⟨Nat.le_of_ble_eq_true rfl, Nat.le_of_ble_eq_true rfl⟩ hl.1 rfl (Nat.le_of_ble_eq_true rfl) d_N_newDay_191 (fun E _ _ _ _ hex => hex.elim) (fun rr MM H locs hp hW => ?_)
                  obtain ⟨rfl, rfl⟩ := hp
                  obtain rfl := Option.some.inj hf
                  exact rd_vret C9 hlk hret hW ⟨rfl, rfl⟩ (by decide) (by decide) d_N_newDay_194
            · have hf := rd_t hf c124
              refine lv_aload_n hx hb d_N_newDay_119 rfl (lv_at hl 0 rfl) ?_
              refine gf_N_ends C9 hW l_N_55 d_N_newDay_120 ?_
              refine lv_iload_n hx hb d_N_newDay_123 rfl (lv_at hl 1 rfl) ?_
              obtain ⟨g132, hf⟩ := rd_g hf
              refine al_m_ends C9 hW rfl g132 d_N_newDay_124 ?_
              refine lv_aload_n hx hb d_N_newDay_125 rfl (lv_at hl 0 rfl) ?_
              refine gf_N_day C9 hW l_N_98 d_N_newDay_126 ?_
              refine lv_icmp_ge (tgt := 152) hx hb d_N_newDay_129 (by decide) (fun c133 => ?_) (fun c133 => ?_)
              · have hf := rd_t hf c133
                refine lv_aload_n hx hb d_N_newDay_152 rfl (lv_at hl 0 rfl) ?_
                refine gf_N_state C9 hW l_N_52 d_N_newDay_153 ?_
                refine lv_iload_n hx hb d_N_newDay_156 rfl (lv_at hl 1 rfl) ?_
                obtain ⟨g134, hf⟩ := rd_g hf
                refine al_m_state C9 hW rfl g134 d_N_newDay_157 ?_
                refine lv_iconst (v := 2) hx hb d_N_newDay_158 (by decide) ?_
                refine lv_icmp_ne (tgt := 194) hx hb d_N_newDay_159 (by decide) (fun c135 => ?_) (fun c135 => ?_)
                · have hf := rd_f hf c135
                  obtain rfl := Option.some.inj hf
                  exact rd_vret C9 hlk hret hW ⟨rfl, rfl⟩ (by decide) (by decide) d_N_newDay_194
                · have hf := rd_t hf c135
                  refine lv_aload_n hx hb d_N_newDay_162 rfl (lv_at hl 0 rfl) ?_
                  refine gf_N_ends C9 hW l_N_55 d_N_newDay_163 ?_
                  refine lv_iload_n hx hb d_N_newDay_166 rfl (lv_at hl 1 rfl) ?_
                  obtain ⟨g136, hf⟩ := rd_g hf
                  refine al_m_ends C9 hW rfl g136 d_N_newDay_167 ?_
                  refine lv_aload_n hx hb d_N_newDay_168 rfl (lv_at hl 0 rfl) ?_
                  refine gf_N_day C9 hW l_N_98 d_N_newDay_169 ?_
                  refine lv_icmp_ge (tgt := 194) hx hb d_N_newDay_172 (by decide) (fun c137 => ?_) (fun c137 => ?_)
                  · have hf := rd_t hf c137
                    obtain rfl := Option.some.inj hf
                    exact rd_vret C9 hlk hret hW ⟨rfl, rfl⟩ (by decide) (by decide) d_N_newDay_194
                  · have hf := rd_f hf c137
                    refine lv_aload_n hx hb d_N_newDay_175 rfl (lv_at hl 0 rfl) ?_
                    refine gf_N_owner C9 hW l_N_40 d_N_newDay_176 ?_
                    refine lv_iload_n hx hb d_N_newDay_179 rfl (lv_at hl 1 rfl) ?_
                    obtain ⟨g138, hf⟩ := rd_g hf
                    refine al_m_owner C9 hW rfl g138 d_N_newDay_180 ?_
                    refine lv_istore_n (lv' := [(2, .int ((r120 10).1 p1.toNatClampNeg)), (0, .ref (ad 0)), (1, .int p1)]) hx hb d_N_newDay_181 rfl hl (by decide) rfl (fun ls hl => ?_)
                    refine lv_aload_n hx hb d_N_newDay_182 rfl (lv_at hl 1 rfl) ?_
                    refine lv_iload_n hx hb d_N_newDay_183 rfl (lv_at hl 2 rfl) ?_
                    obtain ⟨r139, qr139, hf⟩ := rd_bind hf
                    refine rd_callV (As := [.int p1]) (rest := []) rd_gd C9 hTh hW (c_N_removeDomain hls p1 qr139) kc_N_removeDomain ki_N_removeDomain ks_N_removeDomain l_N_168 rfl (lt_N) (ce_N) rfl ⟨Nat.le_of_ble_eq_true rfl, Nat.le_of_ble_eq_true rfl⟩ ⟨Nat.le_of_ble_eq_true rfl, Nat.le_of_ble_eq_true rfl⟩ hl.1 rfl (Nat.le_of_ble_eq_true rfl) d_N_newDay_184 (fun E _ _ _ _ hex => hex.elim) (fun rr MM H locs hp hW => ?_)
                    obtain ⟨rfl, rfl⟩ := hp
                    refine lv_aload_n hx hb d_N_newDay_187 rfl (lv_at hl 1 rfl) ?_
                    refine lv_iload_n hx hb d_N_newDay_188 rfl (lv_at hl 0 rfl) ?_
                    refine lv_iconst (v := 4) hx hb d_N_newDay_189 (by decide) ?_
                    refine lv_iload_n hx hb d_N_newDay_190 rfl (lv_at hl 2 rfl) ?_
                    obtain ⟨r140, qr140, hf⟩ := rd_bind hf
                    refine rd_callV (As := [.int ((r120 10).1 p1.toNatClampNeg), .int 4, .int p1]) (rest := []) rd_gd C9 hTh hW (c_N_tell hls ((r120 10).1 p1.toNatClampNeg) 4 p1 qr140) kc_N_tell ki_N_tell ks_N_tell l_N_171 rfl (lt_N) (ce_N) rfl ⟨Nat.le_of_ble_eq_true rfl, Nat.le_of_ble_eq_true rfl⟩ ⟨Nat.le_of_ble_eq_true rfl, Nat.le_of_ble_eq_true rfl⟩ hl.1 rfl (Nat.le_of_ble_eq_true rfl) d_N_newDay_191 (fun E _ _ _ _ hex => hex.elim) (fun rr MM H locs hp hW => ?_)
                    obtain ⟨rfl, rfl⟩ := hp
                    obtain rfl := Option.some.inj hf
                    exact rd_vret C9 hlk hret hW ⟨rfl, rfl⟩ (by decide) (by decide) d_N_newDay_194
              · have hf := rd_f hf c133
                refine lv_aload_n hx hb d_N_newDay_132 rfl (lv_at hl 0 rfl) ?_
                refine gf_N_state C9 hW l_N_52 d_N_newDay_133 ?_
                refine lv_iload_n hx hb d_N_newDay_136 rfl (lv_at hl 1 rfl) ?_
                refine lv_iconst (v := 2) hx hb d_N_newDay_137 (by decide) ?_
                obtain ⟨g141, hf⟩ := rd_g hf
                refine as_m_state C9 hW rfl g141 d_N_newDay_138 (fun H locs hW => ?_)
                obtain ⟨M142, hM142, hf⟩ := rd_k_el hf
                rw [← hM142] at hW
                refine lv_aload_n hx hb d_N_newDay_139 rfl (lv_at hl 0 rfl) ?_
                refine gf_N_ends C9 hW l_N_55 d_N_newDay_140 ?_
                refine lv_iload_n hx hb d_N_newDay_143 rfl (lv_at hl 1 rfl) ?_
                refine lv_dup2_11 hx hb d_N_newDay_144 rfl rfl ?_
                obtain ⟨g143, hf⟩ := rd_g hf
                refine al_m_ends C9 hW rfl g143 d_N_newDay_145 ?_
                refine lv_iconst (v := 2) hx hb d_N_newDay_146 (by decide) ?_
                refine lv_iadd hx hb d_N_newDay_147 ?_
                obtain ⟨g144, hf⟩ := rd_g hf
                refine as_m_ends C9 hW rfl g144 d_N_newDay_148 (fun H locs hW => ?_)
                obtain ⟨M145, hM145, hf⟩ := rd_k_el hf
                rw [← hM145] at hW
                refine lv_goto (tgt := 194) hx hb d_N_newDay_149 (by decide) ?_
                obtain rfl := Option.some.inj hf
                exact rd_vret C9 hlk hret hW ⟨rfl, rfl⟩ (by decide) (by decide) d_N_newDay_194
          · have hf := rd_t hf c122
            refine lv_aload_n hx hb d_N_newDay_68 rfl (lv_at hl 0 rfl) ?_
            refine gf_N_expiry C9 hW l_N_43 d_N_newDay_69 ?_
            refine lv_iload_n hx hb d_N_newDay_72 rfl (lv_at hl 1 rfl) ?_
            obtain ⟨g146, hf⟩ := rd_g hf
            refine al_m_expiry C9 hW rfl g146 d_N_newDay_73 ?_
            refine lv_aload_n hx hb d_N_newDay_74 rfl (lv_at hl 0 rfl) ?_
            refine gf_N_day C9 hW l_N_98 d_N_newDay_75 ?_
            refine lv_icmp_ge (tgt := 109) hx hb d_N_newDay_78 (by decide) (fun c147 => ?_) (fun c147 => ?_)
            · have hf := rd_t hf c147
              refine lv_aload_n hx hb d_N_newDay_109 rfl (lv_at hl 0 rfl) ?_
              refine gf_N_state C9 hW l_N_52 d_N_newDay_110 ?_
              refine lv_iload_n hx hb d_N_newDay_113 rfl (lv_at hl 1 rfl) ?_
              obtain ⟨g148, hf⟩ := rd_g hf
              refine al_m_state C9 hW rfl g148 d_N_newDay_114 ?_
              refine lv_iconst (v := 1) hx hb d_N_newDay_115 (by decide) ?_
              refine lv_icmp_ne (tgt := 152) hx hb d_N_newDay_116 (by decide) (fun c149 => ?_) (fun c149 => ?_)
              · have hf := rd_f hf c149
                refine lv_aload_n hx hb d_N_newDay_152 rfl (lv_at hl 0 rfl) ?_
                refine gf_N_state C9 hW l_N_52 d_N_newDay_153 ?_
                refine lv_iload_n hx hb d_N_newDay_156 rfl (lv_at hl 1 rfl) ?_
                obtain ⟨g150, hf⟩ := rd_g hf
                refine al_m_state C9 hW rfl g150 d_N_newDay_157 ?_
                refine lv_iconst (v := 2) hx hb d_N_newDay_158 (by decide) ?_
                refine lv_icmp_ne (tgt := 194) hx hb d_N_newDay_159 (by decide) (fun c151 => ?_) (fun c151 => ?_)
                · have hf := rd_f hf c151
                  obtain rfl := Option.some.inj hf
                  exact rd_vret C9 hlk hret hW ⟨rfl, rfl⟩ (by decide) (by decide) d_N_newDay_194
                · have hf := rd_t hf c151
                  refine lv_aload_n hx hb d_N_newDay_162 rfl (lv_at hl 0 rfl) ?_
                  refine gf_N_ends C9 hW l_N_55 d_N_newDay_163 ?_
                  refine lv_iload_n hx hb d_N_newDay_166 rfl (lv_at hl 1 rfl) ?_
                  obtain ⟨g152, hf⟩ := rd_g hf
                  refine al_m_ends C9 hW rfl g152 d_N_newDay_167 ?_
                  refine lv_aload_n hx hb d_N_newDay_168 rfl (lv_at hl 0 rfl) ?_
                  refine gf_N_day C9 hW l_N_98 d_N_newDay_169 ?_
                  refine lv_icmp_ge (tgt := 194) hx hb d_N_newDay_172 (by decide) (fun c153 => ?_) (fun c153 => ?_)
                  · have hf := rd_t hf c153
                    obtain rfl := Option.some.inj hf
                    exact rd_vret C9 hlk hret hW ⟨rfl, rfl⟩ (by decide) (by decide) d_N_newDay_194
                  · have hf := rd_f hf c153
                    refine lv_aload_n hx hb d_N_newDay_175 rfl (lv_at hl 0 rfl) ?_
                    refine gf_N_owner C9 hW l_N_40 d_N_newDay_176 ?_
                    refine lv_iload_n hx hb d_N_newDay_179 rfl (lv_at hl 1 rfl) ?_
                    obtain ⟨g154, hf⟩ := rd_g hf
                    refine al_m_owner C9 hW rfl g154 d_N_newDay_180 ?_
                    refine lv_istore_n (lv' := [(2, .int ((r120 10).1 p1.toNatClampNeg)), (0, .ref (ad 0)), (1, .int p1)]) hx hb d_N_newDay_181 rfl hl (by decide) rfl (fun ls hl => ?_)
                    refine lv_aload_n hx hb d_N_newDay_182 rfl (lv_at hl 1 rfl) ?_
                    refine lv_iload_n hx hb d_N_newDay_183 rfl (lv_at hl 2 rfl) ?_
                    obtain ⟨r155, qr155, hf⟩ := rd_bind hf
                    refine rd_callV (As := [.int p1]) (rest := []) rd_gd C9 hTh hW (c_N_removeDomain hls p1 qr155) kc_N_removeDomain ki_N_removeDomain ks_N_removeDomain l_N_168 rfl (lt_N) (ce_N) rfl ⟨Nat.le_of_ble_eq_true rfl, Nat.le_of_ble_eq_true rfl⟩ ⟨Nat.le_of_ble_eq_true rfl, Nat.le_of_ble_eq_true rfl⟩ hl.1 rfl (Nat.le_of_ble_eq_true rfl) d_N_newDay_184 (fun E _ _ _ _ hex => hex.elim) (fun rr MM H locs hp hW => ?_)
                    obtain ⟨rfl, rfl⟩ := hp
                    refine lv_aload_n hx hb d_N_newDay_187 rfl (lv_at hl 1 rfl) ?_
                    refine lv_iload_n hx hb d_N_newDay_188 rfl (lv_at hl 0 rfl) ?_
                    refine lv_iconst (v := 4) hx hb d_N_newDay_189 (by decide) ?_
                    refine lv_iload_n hx hb d_N_newDay_190 rfl (lv_at hl 2 rfl) ?_
                    obtain ⟨r156, qr156, hf⟩ := rd_bind hf
                    refine rd_callV (As := [.int ((r120 10).1 p1.toNatClampNeg), .int 4, .int p1]) (rest := []) rd_gd C9 hTh hW (c_N_tell hls ((r120 10).1 p1.toNatClampNeg) 4 p1 qr156) kc_N_tell ki_N_tell ks_N_tell l_N_171 rfl (lt_N) (ce_N) rfl ⟨Nat.le_of_ble_eq_true rfl, Nat.le_of_ble_eq_true rfl⟩ ⟨Nat.le_of_ble_eq_true rfl, Nat.le_of_ble_eq_true rfl⟩ hl.1 rfl (Nat.le_of_ble_eq_true rfl) d_N_newDay_191 (fun E _ _ _ _ hex => hex.elim) (fun rr MM H locs hp hW => ?_)
                    obtain ⟨rfl, rfl⟩ := hp
                    obtain rfl := Option.some.inj hf
                    exact rd_vret C9 hlk hret hW ⟨rfl, rfl⟩ (by decide) (by decide) d_N_newDay_194
              · have hf := rd_t hf c149
                refine lv_aload_n hx hb d_N_newDay_119 rfl (lv_at hl 0 rfl) ?_
                refine gf_N_ends C9 hW l_N_55 d_N_newDay_120 ?_
                refine lv_iload_n hx hb d_N_newDay_123 rfl (lv_at hl 1 rfl) ?_
                obtain ⟨g157, hf⟩ := rd_g hf
                refine al_m_ends C9 hW rfl g157 d_N_newDay_124 ?_
                refine lv_aload_n hx hb d_N_newDay_125 rfl (lv_at hl 0 rfl) ?_
                refine gf_N_day C9 hW l_N_98 d_N_newDay_126 ?_
                refine lv_icmp_ge (tgt := 152) hx hb d_N_newDay_129 (by decide) (fun c158 => ?_) (fun c158 => ?_)
                · have hf := rd_t hf c158
                  refine lv_aload_n hx hb d_N_newDay_152 rfl (lv_at hl 0 rfl) ?_
                  refine gf_N_state C9 hW l_N_52 d_N_newDay_153 ?_
                  refine lv_iload_n hx hb d_N_newDay_156 rfl (lv_at hl 1 rfl) ?_
                  obtain ⟨g159, hf⟩ := rd_g hf
                  refine al_m_state C9 hW rfl g159 d_N_newDay_157 ?_
                  refine lv_iconst (v := 2) hx hb d_N_newDay_158 (by decide) ?_
                  refine lv_icmp_ne (tgt := 194) hx hb d_N_newDay_159 (by decide) (fun c160 => ?_) (fun c160 => ?_)
                  · have hf := rd_f hf c160
                    obtain rfl := Option.some.inj hf
                    exact rd_vret C9 hlk hret hW ⟨rfl, rfl⟩ (by decide) (by decide) d_N_newDay_194
                  · have hf := rd_t hf c160
                    refine lv_aload_n hx hb d_N_newDay_162 rfl (lv_at hl 0 rfl) ?_
                    refine gf_N_ends C9 hW l_N_55 d_N_newDay_163 ?_
                    refine lv_iload_n hx hb d_N_newDay_166 rfl (lv_at hl 1 rfl) ?_
                    obtain ⟨g161, hf⟩ := rd_g hf
                    refine al_m_ends C9 hW rfl g161 d_N_newDay_167 ?_
                    refine lv_aload_n hx hb d_N_newDay_168 rfl (lv_at hl 0 rfl) ?_
                    refine gf_N_day C9 hW l_N_98 d_N_newDay_169 ?_
                    refine lv_icmp_ge (tgt := 194) hx hb d_N_newDay_172 (by decide) (fun c162 => ?_) (fun c162 => ?_)
                    · have hf := rd_t hf c162
                      obtain rfl := Option.some.inj hf
                      exact rd_vret C9 hlk hret hW ⟨rfl, rfl⟩ (by decide) (by decide) d_N_newDay_194
                    · have hf := rd_f hf c162
                      refine lv_aload_n hx hb d_N_newDay_175 rfl (lv_at hl 0 rfl) ?_
                      refine gf_N_owner C9 hW l_N_40 d_N_newDay_176 ?_
                      refine lv_iload_n hx hb d_N_newDay_179 rfl (lv_at hl 1 rfl) ?_
                      obtain ⟨g163, hf⟩ := rd_g hf
                      refine al_m_owner C9 hW rfl g163 d_N_newDay_180 ?_
                      refine lv_istore_n (lv' := [(2, .int ((r120 10).1 p1.toNatClampNeg)), (0, .ref (ad 0)), (1, .int p1)]) hx hb d_N_newDay_181 rfl hl (by decide) rfl (fun ls hl => ?_)
                      refine lv_aload_n hx hb d_N_newDay_182 rfl (lv_at hl 1 rfl) ?_
                      refine lv_iload_n hx hb d_N_newDay_183 rfl (lv_at hl 2 rfl) ?_
                      obtain ⟨r164, qr164, hf⟩ := rd_bind hf
                      refine rd_callV (As := [.int p1]) (rest := []) rd_gd C9 hTh hW (c_N_removeDomain hls p1 qr164) kc_N_removeDomain ki_N_removeDomain ks_N_removeDomain l_N_168 rfl (lt_N) (ce_N) rfl ⟨Nat.le_of_ble_eq_true rfl, Nat.le_of_ble_eq_true rfl⟩ ⟨Nat.le_of_ble_eq_true rfl, Nat.le_of_ble_eq_true rfl⟩ hl.1 rfl (Nat.le_of_ble_eq_true rfl) d_N_newDay_184 (fun E _ _ _ _ hex => hex.elim) (fun rr MM H locs hp hW => ?_)
                      obtain ⟨rfl, rfl⟩ := hp
                      refine lv_aload_n hx hb d_N_newDay_187 rfl (lv_at hl 1 rfl) ?_
                      refine lv_iload_n hx hb d_N_newDay_188 rfl (lv_at hl 0 rfl) ?_
                      refine lv_iconst (v := 4) hx hb d_N_newDay_189 (by decide) ?_
                      refine lv_iload_n hx hb d_N_newDay_190 rfl (lv_at hl 2 rfl) ?_
                      obtain ⟨r165, qr165, hf⟩ := rd_bind hf
                      refine rd_callV (As := [.int ((r120 10).1 p1.toNatClampNeg), .int 4, .int p1]) (rest := []) rd_gd C9 hTh hW (c_N_tell hls ((r120 10).1 p1.toNatClampNeg) 4 p1 qr165) kc_N_tell ki_N_tell ks_N_tell l_N_171 rfl (lt_N) (ce_N) rfl ⟨Nat.le_of_ble_eq_true rfl, Nat.le_of_ble_eq_true rfl⟩ ⟨Nat.le_of_ble_eq_true rfl, Nat.le_of_ble_eq_true rfl⟩ hl.1 rfl (Nat.le_of_ble_eq_true rfl) d_N_newDay_191 (fun E _ _ _ _ hex => hex.elim) (fun rr MM H locs hp hW => ?_)
                      obtain ⟨rfl, rfl⟩ := hp
                      obtain rfl := Option.some.inj hf
                      exact rd_vret C9 hlk hret hW ⟨rfl, rfl⟩ (by decide) (by decide) d_N_newDay_194
                · have hf := rd_f hf c158
                  refine lv_aload_n hx hb d_N_newDay_132 rfl (lv_at hl 0 rfl) ?_
                  refine gf_N_state C9 hW l_N_52 d_N_newDay_133 ?_
                  refine lv_iload_n hx hb d_N_newDay_136 rfl (lv_at hl 1 rfl) ?_
                  refine lv_iconst (v := 2) hx hb d_N_newDay_137 (by decide) ?_
                  obtain ⟨g166, hf⟩ := rd_g hf
                  refine as_m_state C9 hW rfl g166 d_N_newDay_138 (fun H locs hW => ?_)
                  obtain ⟨M167, hM167, hf⟩ := rd_k_el hf
                  rw [← hM167] at hW
                  refine lv_aload_n hx hb d_N_newDay_139 rfl (lv_at hl 0 rfl) ?_
                  refine gf_N_ends C9 hW l_N_55 d_N_newDay_140 ?_
                  refine lv_iload_n hx hb d_N_newDay_143 rfl (lv_at hl 1 rfl) ?_
                  refine lv_dup2_11 hx hb d_N_newDay_144 rfl rfl ?_
                  obtain ⟨g168, hf⟩ := rd_g hf
                  refine al_m_ends C9 hW rfl g168 d_N_newDay_145 ?_
                  refine lv_iconst (v := 2) hx hb d_N_newDay_146 (by decide) ?_
                  refine lv_iadd hx hb d_N_newDay_147 ?_
                  obtain ⟨g169, hf⟩ := rd_g hf
                  refine as_m_ends C9 hW rfl g169 d_N_newDay_148 (fun H locs hW => ?_)
                  obtain ⟨M170, hM170, hf⟩ := rd_k_el hf
                  rw [← hM170] at hW
                  refine lv_goto (tgt := 194) hx hb d_N_newDay_149 (by decide) ?_
                  obtain rfl := Option.some.inj hf
                  exact rd_vret C9 hlk hret hW ⟨rfl, rfl⟩ (by decide) (by decide) d_N_newDay_194
            · have hf := rd_f hf c147
              refine lv_aload_n hx hb d_N_newDay_81 rfl (lv_at hl 0 rfl) ?_
              refine gf_N_expiry C9 hW l_N_43 d_N_newDay_82 ?_
              refine lv_iload_n hx hb d_N_newDay_85 rfl (lv_at hl 1 rfl) ?_
              refine lv_dup2_11 hx hb d_N_newDay_86 rfl rfl ?_
              obtain ⟨g171, hf⟩ := rd_g hf
              refine al_m_expiry C9 hW rfl g171 d_N_newDay_87 ?_
              refine lv_bipush (v := 10) hx hb d_N_newDay_88 (by decide) ?_
              refine lv_iadd hx hb d_N_newDay_90 ?_
              obtain ⟨g172, hf⟩ := rd_g hf
              refine as_m_expiry C9 hW rfl g172 d_N_newDay_91 (fun H locs hW => ?_)
              obtain ⟨M173, hM173, hf⟩ := rd_k_el hf
              rw [← hM173] at hW
              refine lv_aload_n hx hb d_N_newDay_92 rfl (lv_at hl 0 rfl) ?_
              refine lv_aload_n hx hb d_N_newDay_93 rfl (lv_at hl 0 rfl) ?_
              refine gf_N_owner C9 hW l_N_40 d_N_newDay_94 ?_
              refine lv_iload_n hx hb d_N_newDay_97 rfl (lv_at hl 1 rfl) ?_
              obtain ⟨g174, hf⟩ := rd_g hf
              refine al_m_owner C9 hW rfl g174 d_N_newDay_98 ?_
              refine lv_iconst (v := 1) hx hb d_N_newDay_99 (by decide) ?_
              refine lv_iconst (v := 1) hx hb d_N_newDay_100 (by decide) ?_
              refine lv_iload_n hx hb d_N_newDay_101 rfl (lv_at hl 1 rfl) ?_
              refine lv_iconst (v := 4) hx hb d_N_newDay_102 (by decide) ?_
              obtain ⟨r175, qr175, hf⟩ := rd_bind hf
              refine rd_callV (As := [.int ((M173 10).1 p1.toNatClampNeg), .int 1, .int 1, .int p1, .int 4]) (rest := []) rd_gd C9 hTh hW (c_N_pay hls ((M173 10).1 p1.toNatClampNeg) 1 1 p1 4 qr175) kc_N_pay ki_N_pay ks_N_pay l_N_154 rfl (lt_N) (ce_N) rfl ⟨Nat.le_of_ble_eq_true rfl, Nat.le_of_ble_eq_true rfl⟩ ⟨Nat.le_of_ble_eq_true rfl, Nat.le_of_ble_eq_true rfl⟩ hl.1 rfl (Nat.le_of_ble_eq_true rfl) d_N_newDay_103 (fun E _ _ _ _ hex => hex.elim) (fun rr MM H locs hp hW => ?_)
              obtain ⟨rfl, rfl⟩ := hp
              refine lv_goto (tgt := 194) hx hb d_N_newDay_106 (by decide) ?_
              obtain rfl := Option.some.inj hf
              exact rd_vret C9 hlk hret hW ⟨rfl, rfl⟩ (by decide) (by decide) d_N_newDay_194
        · have hf := rd_f hf c119
          refine lv_aload_n hx hb d_N_newDay_46 rfl (lv_at hl 0 rfl) ?_
          refine lv_iload_n hx hb d_N_newDay_47 rfl (lv_at hl 1 rfl) ?_
          obtain ⟨r176, qr176, hf⟩ := rd_bind hf
          refine rd_callV (As := [.int p1]) (rest := []) rd_gd C9 hTh hW (c_N_handOver hls p1 qr176) kc_N_handOver ki_N_handOver ks_N_handOver l_N_174 rfl (lt_N) (ce_N) rfl ⟨Nat.le_of_ble_eq_true rfl, Nat.le_of_ble_eq_true rfl⟩ ⟨Nat.le_of_ble_eq_true rfl, Nat.le_of_ble_eq_true rfl⟩ hl.1 rfl (Nat.le_of_ble_eq_true rfl) d_N_newDay_48 (fun E _ _ _ _ hex => hex.elim) (fun rr MM H locs hp hW => ?_)
          obtain ⟨rfl, rfl⟩ := hp
          refine lv_goto (tgt := 59) hx hb d_N_newDay_51 (by decide) ?_
          refine lv_aload_n hx hb d_N_newDay_59 rfl (lv_at hl 0 rfl) ?_
          refine gf_N_state C9 hW l_N_52 d_N_newDay_60 ?_
          refine lv_iload_n hx hb d_N_newDay_63 rfl (lv_at hl 1 rfl) ?_
          obtain ⟨g177, hf⟩ := rd_g hf
          refine al_m_state C9 hW rfl g177 d_N_newDay_64 ?_
          refine lv_if_ne (tgt := 109) hx hb d_N_newDay_65 (by decide) (fun c178 => ?_) (fun c178 => ?_)
          · have hf := rd_f hf c178
            refine lv_aload_n hx hb d_N_newDay_109 rfl (lv_at hl 0 rfl) ?_
            refine gf_N_state C9 hW l_N_52 d_N_newDay_110 ?_
            refine lv_iload_n hx hb d_N_newDay_113 rfl (lv_at hl 1 rfl) ?_
            obtain ⟨g179, hf⟩ := rd_g hf
            refine al_m_state C9 hW rfl g179 d_N_newDay_114 ?_
            refine lv_iconst (v := 1) hx hb d_N_newDay_115 (by decide) ?_
            refine lv_icmp_ne (tgt := 152) hx hb d_N_newDay_116 (by decide) (fun c180 => ?_) (fun c180 => ?_)
            · have hf := rd_f hf c180
              refine lv_aload_n hx hb d_N_newDay_152 rfl (lv_at hl 0 rfl) ?_
              refine gf_N_state C9 hW l_N_52 d_N_newDay_153 ?_
              refine lv_iload_n hx hb d_N_newDay_156 rfl (lv_at hl 1 rfl) ?_
              obtain ⟨g181, hf⟩ := rd_g hf
              refine al_m_state C9 hW rfl g181 d_N_newDay_157 ?_
              refine lv_iconst (v := 2) hx hb d_N_newDay_158 (by decide) ?_
              refine lv_icmp_ne (tgt := 194) hx hb d_N_newDay_159 (by decide) (fun c182 => ?_) (fun c182 => ?_)
              · have hf := rd_f hf c182
                obtain rfl := Option.some.inj hf
                exact rd_vret C9 hlk hret hW ⟨rfl, rfl⟩ (by decide) (by decide) d_N_newDay_194
              · have hf := rd_t hf c182
                refine lv_aload_n hx hb d_N_newDay_162 rfl (lv_at hl 0 rfl) ?_
                refine gf_N_ends C9 hW l_N_55 d_N_newDay_163 ?_
                refine lv_iload_n hx hb d_N_newDay_166 rfl (lv_at hl 1 rfl) ?_
                obtain ⟨g183, hf⟩ := rd_g hf
                refine al_m_ends C9 hW rfl g183 d_N_newDay_167 ?_
                refine lv_aload_n hx hb d_N_newDay_168 rfl (lv_at hl 0 rfl) ?_
                refine gf_N_day C9 hW l_N_98 d_N_newDay_169 ?_
                refine lv_icmp_ge (tgt := 194) hx hb d_N_newDay_172 (by decide) (fun c184 => ?_) (fun c184 => ?_)
                · have hf := rd_t hf c184
                  obtain rfl := Option.some.inj hf
                  exact rd_vret C9 hlk hret hW ⟨rfl, rfl⟩ (by decide) (by decide) d_N_newDay_194
                · have hf := rd_f hf c184
                  refine lv_aload_n hx hb d_N_newDay_175 rfl (lv_at hl 0 rfl) ?_
                  refine gf_N_owner C9 hW l_N_40 d_N_newDay_176 ?_
                  refine lv_iload_n hx hb d_N_newDay_179 rfl (lv_at hl 1 rfl) ?_
                  obtain ⟨g185, hf⟩ := rd_g hf
                  refine al_m_owner C9 hW rfl g185 d_N_newDay_180 ?_
                  refine lv_istore_n (lv' := [(2, .int ((r176 10).1 p1.toNatClampNeg)), (0, .ref (ad 0)), (1, .int p1)]) hx hb d_N_newDay_181 rfl hl (by decide) rfl (fun ls hl => ?_)
                  refine lv_aload_n hx hb d_N_newDay_182 rfl (lv_at hl 1 rfl) ?_
                  refine lv_iload_n hx hb d_N_newDay_183 rfl (lv_at hl 2 rfl) ?_
                  obtain ⟨r186, qr186, hf⟩ := rd_bind hf
                  refine rd_callV (As := [.int p1]) (rest := []) rd_gd C9 hTh hW (c_N_removeDomain hls p1 qr186) kc_N_removeDomain ki_N_removeDomain ks_N_removeDomain l_N_168 rfl (lt_N) (ce_N) rfl ⟨Nat.le_of_ble_eq_true rfl, Nat.le_of_ble_eq_true rfl⟩ ⟨Nat.le_of_ble_eq_true rfl, Nat.le_of_ble_eq_true rfl⟩ hl.1 rfl (Nat.le_of_ble_eq_true rfl) d_N_newDay_184 (fun E _ _ _ _ hex => hex.elim) (fun rr MM H locs hp hW => ?_)
                  obtain ⟨rfl, rfl⟩ := hp
                  refine lv_aload_n hx hb d_N_newDay_187 rfl (lv_at hl 1 rfl) ?_
                  refine lv_iload_n hx hb d_N_newDay_188 rfl (lv_at hl 0 rfl) ?_
                  refine lv_iconst (v := 4) hx hb d_N_newDay_189 (by decide) ?_
                  refine lv_iload_n hx hb d_N_newDay_190 rfl (lv_at hl 2 rfl) ?_
                  obtain ⟨r187, qr187, hf⟩ := rd_bind hf
                  refine rd_callV (As := [.int ((r176 10).1 p1.toNatClampNeg), .int 4, .int p1]) (rest := []) rd_gd C9 hTh hW (c_N_tell hls ((r176 10).1 p1.toNatClampNeg) 4 p1 qr187) kc_N_tell ki_N_tell ks_N_tell l_N_171 rfl (lt_N) (ce_N) rfl ⟨Nat.le_of_ble_eq_true rfl, Nat.le_of_ble_eq_true rfl⟩ ⟨Nat.le_of_ble_eq_true rfl, Nat.le_of_ble_eq_true rfl⟩ hl.1 rfl (Nat.le_of_ble_eq_true rfl) d_N_newDay_191 (fun E _ _ _ _ hex => hex.elim) (fun rr MM H locs hp hW => ?_)
                  obtain ⟨rfl, rfl⟩ := hp
                  obtain rfl := Option.some.inj hf
                  exact rd_vret C9 hlk hret hW ⟨rfl, rfl⟩ (by decide) (by decide) d_N_newDay_194
            · have hf := rd_t hf c180
              refine lv_aload_n hx hb d_N_newDay_119 rfl (lv_at hl 0 rfl) ?_
              refine gf_N_ends C9 hW l_N_55 d_N_newDay_120 ?_
              refine lv_iload_n hx hb d_N_newDay_123 rfl (lv_at hl 1 rfl) ?_
              obtain ⟨g188, hf⟩ := rd_g hf
              refine al_m_ends C9 hW rfl g188 d_N_newDay_124 ?_
              refine lv_aload_n hx hb d_N_newDay_125 rfl (lv_at hl 0 rfl) ?_
              refine gf_N_day C9 hW l_N_98 d_N_newDay_126 ?_
              refine lv_icmp_ge (tgt := 152) hx hb d_N_newDay_129 (by decide) (fun c189 => ?_) (fun c189 => ?_)
              · have hf := rd_t hf c189
                refine lv_aload_n hx hb d_N_newDay_152 rfl (lv_at hl 0 rfl) ?_
                refine gf_N_state C9 hW l_N_52 d_N_newDay_153 ?_
                refine lv_iload_n hx hb d_N_newDay_156 rfl (lv_at hl 1 rfl) ?_
                obtain ⟨g190, hf⟩ := rd_g hf
                refine al_m_state C9 hW rfl g190 d_N_newDay_157 ?_
                refine lv_iconst (v := 2) hx hb d_N_newDay_158 (by decide) ?_
                refine lv_icmp_ne (tgt := 194) hx hb d_N_newDay_159 (by decide) (fun c191 => ?_) (fun c191 => ?_)
                · have hf := rd_f hf c191
                  obtain rfl := Option.some.inj hf
                  exact rd_vret C9 hlk hret hW ⟨rfl, rfl⟩ (by decide) (by decide) d_N_newDay_194
                · have hf := rd_t hf c191
                  refine lv_aload_n hx hb d_N_newDay_162 rfl (lv_at hl 0 rfl) ?_
                  refine gf_N_ends C9 hW l_N_55 d_N_newDay_163 ?_
                  refine lv_iload_n hx hb d_N_newDay_166 rfl (lv_at hl 1 rfl) ?_
                  obtain ⟨g192, hf⟩ := rd_g hf
                  refine al_m_ends C9 hW rfl g192 d_N_newDay_167 ?_
                  refine lv_aload_n hx hb d_N_newDay_168 rfl (lv_at hl 0 rfl) ?_
                  refine gf_N_day C9 hW l_N_98 d_N_newDay_169 ?_
                  refine lv_icmp_ge (tgt := 194) hx hb d_N_newDay_172 (by decide) (fun c193 => ?_) (fun c193 => ?_)
                  · have hf := rd_t hf c193
                    obtain rfl := Option.some.inj hf
                    exact rd_vret C9 hlk hret hW ⟨rfl, rfl⟩ (by decide) (by decide) d_N_newDay_194
                  · have hf := rd_f hf c193
                    refine lv_aload_n hx hb d_N_newDay_175 rfl (lv_at hl 0 rfl) ?_
                    refine gf_N_owner C9 hW l_N_40 d_N_newDay_176 ?_
                    refine lv_iload_n hx hb d_N_newDay_179 rfl (lv_at hl 1 rfl) ?_
                    obtain ⟨g194, hf⟩ := rd_g hf
                    refine al_m_owner C9 hW rfl g194 d_N_newDay_180 ?_
                    refine lv_istore_n (lv' := [(2, .int ((r176 10).1 p1.toNatClampNeg)), (0, .ref (ad 0)), (1, .int p1)]) hx hb d_N_newDay_181 rfl hl (by decide) rfl (fun ls hl => ?_)
                    refine lv_aload_n hx hb d_N_newDay_182 rfl (lv_at hl 1 rfl) ?_
                    refine lv_iload_n hx hb d_N_newDay_183 rfl (lv_at hl 2 rfl) ?_
                    obtain ⟨r195, qr195, hf⟩ := rd_bind hf
                    refine rd_callV (As := [.int p1]) (rest := []) rd_gd C9 hTh hW (c_N_removeDomain hls p1 qr195) kc_N_removeDomain ki_N_removeDomain ks_N_removeDomain l_N_168 rfl (lt_N) (ce_N) rfl ⟨Nat.le_of_ble_eq_true rfl, Nat.le_of_ble_eq_true rfl⟩ ⟨Nat.le_of_ble_eq_true rfl, Nat.le_of_ble_eq_true rfl⟩ hl.1 rfl (Nat.le_of_ble_eq_true rfl) d_N_newDay_184 (fun E _ _ _ _ hex => hex.elim) (fun rr MM H locs hp hW => ?_)
                    obtain ⟨rfl, rfl⟩ := hp
                    refine lv_aload_n hx hb d_N_newDay_187 rfl (lv_at hl 1 rfl) ?_
                    refine lv_iload_n hx hb d_N_newDay_188 rfl (lv_at hl 0 rfl) ?_
                    refine lv_iconst (v := 4) hx hb d_N_newDay_189 (by decide) ?_
                    refine lv_iload_n hx hb d_N_newDay_190 rfl (lv_at hl 2 rfl) ?_
                    obtain ⟨r196, qr196, hf⟩ := rd_bind hf
                    refine rd_callV (As := [.int ((r176 10).1 p1.toNatClampNeg), .int 4, .int p1]) (rest := []) rd_gd C9 hTh hW (c_N_tell hls ((r176 10).1 p1.toNatClampNeg) 4 p1 qr196) kc_N_tell ki_N_tell ks_N_tell l_N_171 rfl (lt_N) (ce_N) rfl ⟨Nat.le_of_ble_eq_true rfl, Nat.le_of_ble_eq_true rfl⟩ ⟨Nat.le_of_ble_eq_true rfl, Nat.le_of_ble_eq_true rfl⟩ hl.1 rfl (Nat.le_of_ble_eq_true rfl) d_N_newDay_191 (fun E _ _ _ _ hex => hex.elim) (fun rr MM H locs hp hW => ?_)
                    obtain ⟨rfl, rfl⟩ := hp
                    obtain rfl := Option.some.inj hf
                    exact rd_vret C9 hlk hret hW ⟨rfl, rfl⟩ (by decide) (by decide) d_N_newDay_194
              · have hf := rd_f hf c189
                refine lv_aload_n hx hb d_N_newDay_132 rfl (lv_at hl 0 rfl) ?_
                refine gf_N_state C9 hW l_N_52 d_N_newDay_133 ?_
                refine lv_iload_n hx hb d_N_newDay_136 rfl (lv_at hl 1 rfl) ?_
                refine lv_iconst (v := 2) hx hb d_N_newDay_137 (by decide) ?_
                obtain ⟨g197, hf⟩ := rd_g hf
                refine as_m_state C9 hW rfl g197 d_N_newDay_138 (fun H locs hW => ?_)
                obtain ⟨M198, hM198, hf⟩ := rd_k_el hf
                rw [← hM198] at hW
                refine lv_aload_n hx hb d_N_newDay_139 rfl (lv_at hl 0 rfl) ?_
                refine gf_N_ends C9 hW l_N_55 d_N_newDay_140 ?_
                refine lv_iload_n hx hb d_N_newDay_143 rfl (lv_at hl 1 rfl) ?_
                refine lv_dup2_11 hx hb d_N_newDay_144 rfl rfl ?_
                obtain ⟨g199, hf⟩ := rd_g hf
                refine al_m_ends C9 hW rfl g199 d_N_newDay_145 ?_
                refine lv_iconst (v := 2) hx hb d_N_newDay_146 (by decide) ?_
                refine lv_iadd hx hb d_N_newDay_147 ?_
                obtain ⟨g200, hf⟩ := rd_g hf
                refine as_m_ends C9 hW rfl g200 d_N_newDay_148 (fun H locs hW => ?_)
                obtain ⟨M201, hM201, hf⟩ := rd_k_el hf
                rw [← hM201] at hW
                refine lv_goto (tgt := 194) hx hb d_N_newDay_149 (by decide) ?_
                obtain rfl := Option.some.inj hf
                exact rd_vret C9 hlk hret hW ⟨rfl, rfl⟩ (by decide) (by decide) d_N_newDay_194
          · have hf := rd_t hf c178
            refine lv_aload_n hx hb d_N_newDay_68 rfl (lv_at hl 0 rfl) ?_
            refine gf_N_expiry C9 hW l_N_43 d_N_newDay_69 ?_
            refine lv_iload_n hx hb d_N_newDay_72 rfl (lv_at hl 1 rfl) ?_
            obtain ⟨g202, hf⟩ := rd_g hf
            refine al_m_expiry C9 hW rfl g202 d_N_newDay_73 ?_
            refine lv_aload_n hx hb d_N_newDay_74 rfl (lv_at hl 0 rfl) ?_
            refine gf_N_day C9 hW l_N_98 d_N_newDay_75 ?_
            refine lv_icmp_ge (tgt := 109) hx hb d_N_newDay_78 (by decide) (fun c203 => ?_) (fun c203 => ?_)
            · have hf := rd_t hf c203
              refine lv_aload_n hx hb d_N_newDay_109 rfl (lv_at hl 0 rfl) ?_
              refine gf_N_state C9 hW l_N_52 d_N_newDay_110 ?_
              refine lv_iload_n hx hb d_N_newDay_113 rfl (lv_at hl 1 rfl) ?_
              obtain ⟨g204, hf⟩ := rd_g hf
              refine al_m_state C9 hW rfl g204 d_N_newDay_114 ?_
              refine lv_iconst (v := 1) hx hb d_N_newDay_115 (by decide) ?_
              refine lv_icmp_ne (tgt := 152) hx hb d_N_newDay_116 (by decide) (fun c205 => ?_) (fun c205 => ?_)
              · have hf := rd_f hf c205
                refine lv_aload_n hx hb d_N_newDay_152 rfl (lv_at hl 0 rfl) ?_
                refine gf_N_state C9 hW l_N_52 d_N_newDay_153 ?_
                refine lv_iload_n hx hb d_N_newDay_156 rfl (lv_at hl 1 rfl) ?_
                obtain ⟨g206, hf⟩ := rd_g hf
                refine al_m_state C9 hW rfl g206 d_N_newDay_157 ?_
                refine lv_iconst (v := 2) hx hb d_N_newDay_158 (by decide) ?_
                refine lv_icmp_ne (tgt := 194) hx hb d_N_newDay_159 (by decide) (fun c207 => ?_) (fun c207 => ?_)
                · have hf := rd_f hf c207
                  obtain rfl := Option.some.inj hf
                  exact rd_vret C9 hlk hret hW ⟨rfl, rfl⟩ (by decide) (by decide) d_N_newDay_194
                · have hf := rd_t hf c207
                  refine lv_aload_n hx hb d_N_newDay_162 rfl (lv_at hl 0 rfl) ?_
                  refine gf_N_ends C9 hW l_N_55 d_N_newDay_163 ?_
                  refine lv_iload_n hx hb d_N_newDay_166 rfl (lv_at hl 1 rfl) ?_
                  obtain ⟨g208, hf⟩ := rd_g hf
                  refine al_m_ends C9 hW rfl g208 d_N_newDay_167 ?_
                  refine lv_aload_n hx hb d_N_newDay_168 rfl (lv_at hl 0 rfl) ?_
                  refine gf_N_day C9 hW l_N_98 d_N_newDay_169 ?_
                  refine lv_icmp_ge (tgt := 194) hx hb d_N_newDay_172 (by decide) (fun c209 => ?_) (fun c209 => ?_)
                  · have hf := rd_t hf c209
                    obtain rfl := Option.some.inj hf
                    exact rd_vret C9 hlk hret hW ⟨rfl, rfl⟩ (by decide) (by decide) d_N_newDay_194
                  · have hf := rd_f hf c209
                    refine lv_aload_n hx hb d_N_newDay_175 rfl (lv_at hl 0 rfl) ?_
                    refine gf_N_owner C9 hW l_N_40 d_N_newDay_176 ?_
                    refine lv_iload_n hx hb d_N_newDay_179 rfl (lv_at hl 1 rfl) ?_
                    obtain ⟨g210, hf⟩ := rd_g hf
                    refine al_m_owner C9 hW rfl g210 d_N_newDay_180 ?_
                    refine lv_istore_n (lv' := [(2, .int ((r176 10).1 p1.toNatClampNeg)), (0, .ref (ad 0)), (1, .int p1)]) hx hb d_N_newDay_181 rfl hl (by decide) rfl (fun ls hl => ?_)
                    refine lv_aload_n hx hb d_N_newDay_182 rfl (lv_at hl 1 rfl) ?_
                    refine lv_iload_n hx hb d_N_newDay_183 rfl (lv_at hl 2 rfl) ?_
                    obtain ⟨r211, qr211, hf⟩ := rd_bind hf
                    refine rd_callV (As := [.int p1]) (rest := []) rd_gd C9 hTh hW (c_N_removeDomain hls p1 qr211) kc_N_removeDomain ki_N_removeDomain ks_N_removeDomain l_N_168 rfl (lt_N) (ce_N) rfl ⟨Nat.le_of_ble_eq_true rfl, Nat.le_of_ble_eq_true rfl⟩ ⟨Nat.le_of_ble_eq_true rfl, Nat.le_of_ble_eq_true rfl⟩ hl.1 rfl (Nat.le_of_ble_eq_true rfl) d_N_newDay_184 (fun E _ _ _ _ hex => hex.elim) (fun rr MM H locs hp hW => ?_)
                    obtain ⟨rfl, rfl⟩ := hp
                    refine lv_aload_n hx hb d_N_newDay_187 rfl (lv_at hl 1 rfl) ?_
                    refine lv_iload_n hx hb d_N_newDay_188 rfl (lv_at hl 0 rfl) ?_
                    refine lv_iconst (v := 4) hx hb d_N_newDay_189 (by decide) ?_
                    refine lv_iload_n hx hb d_N_newDay_190 rfl (lv_at hl 2 rfl) ?_
                    obtain ⟨r212, qr212, hf⟩ := rd_bind hf
                    refine rd_callV (As := [.int ((r176 10).1 p1.toNatClampNeg), .int 4, .int p1]) (rest := []) rd_gd C9 hTh hW (c_N_tell hls ((r176 10).1 p1.toNatClampNeg) 4 p1 qr212) kc_N_tell ki_N_tell ks_N_tell l_N_171 rfl (lt_N) (ce_N) rfl ⟨Nat.le_of_ble_eq_true rfl, Nat.le_of_ble_eq_true rfl⟩ ⟨Nat.le_of_ble_eq_true rfl, Nat.le_of_ble_eq_true rfl⟩ hl.1 rfl (Nat.le_of_ble_eq_true rfl) d_N_newDay_191 (fun E _ _ _ _ hex => hex.elim) (fun rr MM H locs hp hW => ?_)
                    obtain ⟨rfl, rfl⟩ := hp
                    obtain rfl := Option.some.inj hf
                    exact rd_vret C9 hlk hret hW ⟨rfl, rfl⟩ (by decide) (by decide) d_N_newDay_194
              · have hf := rd_t hf c205
                refine lv_aload_n hx hb d_N_newDay_119 rfl (lv_at hl 0 rfl) ?_
                refine gf_N_ends C9 hW l_N_55 d_N_newDay_120 ?_
                refine lv_iload_n hx hb d_N_newDay_123 rfl (lv_at hl 1 rfl) ?_
                obtain ⟨g213, hf⟩ := rd_g hf
                refine al_m_ends C9 hW rfl g213 d_N_newDay_124 ?_
                refine lv_aload_n hx hb d_N_newDay_125 rfl (lv_at hl 0 rfl) ?_
                refine gf_N_day C9 hW l_N_98 d_N_newDay_126 ?_
                refine lv_icmp_ge (tgt := 152) hx hb d_N_newDay_129 (by decide) (fun c214 => ?_) (fun c214 => ?_)
                · have hf := rd_t hf c214
                  refine lv_aload_n hx hb d_N_newDay_152 rfl (lv_at hl 0 rfl) ?_
                  refine gf_N_state C9 hW l_N_52 d_N_newDay_153 ?_
                  refine lv_iload_n hx hb d_N_newDay_156 rfl (lv_at hl 1 rfl) ?_
                  obtain ⟨g215, hf⟩ := rd_g hf
                  refine al_m_state C9 hW rfl g215 d_N_newDay_157 ?_
                  refine lv_iconst (v := 2) hx hb d_N_newDay_158 (by decide) ?_
                  refine lv_icmp_ne (tgt := 194) hx hb d_N_newDay_159 (by decide) (fun c216 => ?_) (fun c216 => ?_)
                  · have hf := rd_f hf c216
                    obtain rfl := Option.some.inj hf
                    exact rd_vret C9 hlk hret hW ⟨rfl, rfl⟩ (by decide) (by decide) d_N_newDay_194
                  · have hf := rd_t hf c216
                    refine lv_aload_n hx hb d_N_newDay_162 rfl (lv_at hl 0 rfl) ?_
                    refine gf_N_ends C9 hW l_N_55 d_N_newDay_163 ?_
                    refine lv_iload_n hx hb d_N_newDay_166 rfl (lv_at hl 1 rfl) ?_
                    obtain ⟨g217, hf⟩ := rd_g hf
                    refine al_m_ends C9 hW rfl g217 d_N_newDay_167 ?_
                    refine lv_aload_n hx hb d_N_newDay_168 rfl (lv_at hl 0 rfl) ?_
                    refine gf_N_day C9 hW l_N_98 d_N_newDay_169 ?_
                    refine lv_icmp_ge (tgt := 194) hx hb d_N_newDay_172 (by decide) (fun c218 => ?_) (fun c218 => ?_)
                    · have hf := rd_t hf c218
                      obtain rfl := Option.some.inj hf
                      exact rd_vret C9 hlk hret hW ⟨rfl, rfl⟩ (by decide) (by decide) d_N_newDay_194
                    · have hf := rd_f hf c218
                      refine lv_aload_n hx hb d_N_newDay_175 rfl (lv_at hl 0 rfl) ?_
                      refine gf_N_owner C9 hW l_N_40 d_N_newDay_176 ?_
                      refine lv_iload_n hx hb d_N_newDay_179 rfl (lv_at hl 1 rfl) ?_
                      obtain ⟨g219, hf⟩ := rd_g hf
                      refine al_m_owner C9 hW rfl g219 d_N_newDay_180 ?_
                      refine lv_istore_n (lv' := [(2, .int ((r176 10).1 p1.toNatClampNeg)), (0, .ref (ad 0)), (1, .int p1)]) hx hb d_N_newDay_181 rfl hl (by decide) rfl (fun ls hl => ?_)
                      refine lv_aload_n hx hb d_N_newDay_182 rfl (lv_at hl 1 rfl) ?_
                      refine lv_iload_n hx hb d_N_newDay_183 rfl (lv_at hl 2 rfl) ?_
                      obtain ⟨r220, qr220, hf⟩ := rd_bind hf
                      refine rd_callV (As := [.int p1]) (rest := []) rd_gd C9 hTh hW (c_N_removeDomain hls p1 qr220) kc_N_removeDomain ki_N_removeDomain ks_N_removeDomain l_N_168 rfl (lt_N) (ce_N) rfl ⟨Nat.le_of_ble_eq_true rfl, Nat.le_of_ble_eq_true rfl⟩ ⟨Nat.le_of_ble_eq_true rfl, Nat.le_of_ble_eq_true rfl⟩ hl.1 rfl (Nat.le_of_ble_eq_true rfl) d_N_newDay_184 (fun E _ _ _ _ hex => hex.elim) (fun rr MM H locs hp hW => ?_)
                      obtain ⟨rfl, rfl⟩ := hp
                      refine lv_aload_n hx hb d_N_newDay_187 rfl (lv_at hl 1 rfl) ?_
                      refine lv_iload_n hx hb d_N_newDay_188 rfl (lv_at hl 0 rfl) ?_
                      refine lv_iconst (v := 4) hx hb d_N_newDay_189 (by decide) ?_
                      refine lv_iload_n hx hb d_N_newDay_190 rfl (lv_at hl 2 rfl) ?_
                      obtain ⟨r221, qr221, hf⟩ := rd_bind hf
                      refine rd_callV (As := [.int ((r176 10).1 p1.toNatClampNeg), .int 4, .int p1]) (rest := []) rd_gd C9 hTh hW (c_N_tell hls ((r176 10).1 p1.toNatClampNeg) 4 p1 qr221) kc_N_tell ki_N_tell ks_N_tell l_N_171 rfl (lt_N) (ce_N) rfl ⟨Nat.le_of_ble_eq_true rfl, Nat.le_of_ble_eq_true rfl⟩ ⟨Nat.le_of_ble_eq_true rfl, Nat.le_of_ble_eq_true rfl⟩ hl.1 rfl (Nat.le_of_ble_eq_true rfl) d_N_newDay_191 (fun E _ _ _ _ hex => hex.elim) (fun rr MM H locs hp hW => ?_)
                      obtain ⟨rfl, rfl⟩ := hp
                      obtain rfl := Option.some.inj hf
                      exact rd_vret C9 hlk hret hW ⟨rfl, rfl⟩ (by decide) (by decide) d_N_newDay_194
                · have hf := rd_f hf c214
                  refine lv_aload_n hx hb d_N_newDay_132 rfl (lv_at hl 0 rfl) ?_
                  refine gf_N_state C9 hW l_N_52 d_N_newDay_133 ?_
                  refine lv_iload_n hx hb d_N_newDay_136 rfl (lv_at hl 1 rfl) ?_
                  refine lv_iconst (v := 2) hx hb d_N_newDay_137 (by decide) ?_
                  obtain ⟨g222, hf⟩ := rd_g hf
                  refine as_m_state C9 hW rfl g222 d_N_newDay_138 (fun H locs hW => ?_)
                  obtain ⟨M223, hM223, hf⟩ := rd_k_el hf
                  rw [← hM223] at hW
                  refine lv_aload_n hx hb d_N_newDay_139 rfl (lv_at hl 0 rfl) ?_
                  refine gf_N_ends C9 hW l_N_55 d_N_newDay_140 ?_
                  refine lv_iload_n hx hb d_N_newDay_143 rfl (lv_at hl 1 rfl) ?_
                  refine lv_dup2_11 hx hb d_N_newDay_144 rfl rfl ?_
                  obtain ⟨g224, hf⟩ := rd_g hf
                  refine al_m_ends C9 hW rfl g224 d_N_newDay_145 ?_
                  refine lv_iconst (v := 2) hx hb d_N_newDay_146 (by decide) ?_
                  refine lv_iadd hx hb d_N_newDay_147 ?_
                  obtain ⟨g225, hf⟩ := rd_g hf
                  refine as_m_ends C9 hW rfl g225 d_N_newDay_148 (fun H locs hW => ?_)
                  obtain ⟨M226, hM226, hf⟩ := rd_k_el hf
                  rw [← hM226] at hW
                  refine lv_goto (tgt := 194) hx hb d_N_newDay_149 (by decide) ?_
                  obtain rfl := Option.some.inj hf
                  exact rd_vret C9 hlk hret hW ⟨rfl, rfl⟩ (by decide) (by decide) d_N_newDay_194
            · have hf := rd_f hf c203
              refine lv_aload_n hx hb d_N_newDay_81 rfl (lv_at hl 0 rfl) ?_
              refine gf_N_expiry C9 hW l_N_43 d_N_newDay_82 ?_
              refine lv_iload_n hx hb d_N_newDay_85 rfl (lv_at hl 1 rfl) ?_
              refine lv_dup2_11 hx hb d_N_newDay_86 rfl rfl ?_
              obtain ⟨g227, hf⟩ := rd_g hf
              refine al_m_expiry C9 hW rfl g227 d_N_newDay_87 ?_
              refine lv_bipush (v := 10) hx hb d_N_newDay_88 (by decide) ?_
              refine lv_iadd hx hb d_N_newDay_90 ?_
              obtain ⟨g228, hf⟩ := rd_g hf
              refine as_m_expiry C9 hW rfl g228 d_N_newDay_91 (fun H locs hW => ?_)
              obtain ⟨M229, hM229, hf⟩ := rd_k_el hf
              rw [← hM229] at hW
              refine lv_aload_n hx hb d_N_newDay_92 rfl (lv_at hl 0 rfl) ?_
              refine lv_aload_n hx hb d_N_newDay_93 rfl (lv_at hl 0 rfl) ?_
              refine gf_N_owner C9 hW l_N_40 d_N_newDay_94 ?_
              refine lv_iload_n hx hb d_N_newDay_97 rfl (lv_at hl 1 rfl) ?_
              obtain ⟨g230, hf⟩ := rd_g hf
              refine al_m_owner C9 hW rfl g230 d_N_newDay_98 ?_
              refine lv_iconst (v := 1) hx hb d_N_newDay_99 (by decide) ?_
              refine lv_iconst (v := 1) hx hb d_N_newDay_100 (by decide) ?_
              refine lv_iload_n hx hb d_N_newDay_101 rfl (lv_at hl 1 rfl) ?_
              refine lv_iconst (v := 4) hx hb d_N_newDay_102 (by decide) ?_
              obtain ⟨r231, qr231, hf⟩ := rd_bind hf
              refine rd_callV (As := [.int ((M229 10).1 p1.toNatClampNeg), .int 1, .int 1, .int p1, .int 4]) (rest := []) rd_gd C9 hTh hW (c_N_pay hls ((M229 10).1 p1.toNatClampNeg) 1 1 p1 4 qr231) kc_N_pay ki_N_pay ks_N_pay l_N_154 rfl (lt_N) (ce_N) rfl ⟨Nat.le_of_ble_eq_true rfl, Nat.le_of_ble_eq_true rfl⟩ ⟨Nat.le_of_ble_eq_true rfl, Nat.le_of_ble_eq_true rfl⟩ hl.1 rfl (Nat.le_of_ble_eq_true rfl) d_N_newDay_103 (fun E _ _ _ _ hex => hex.elim) (fun rr MM H locs hp hW => ?_)
              obtain ⟨rfl, rfl⟩ := hp
              refine lv_goto (tgt := 194) hx hb d_N_newDay_106 (by decide) ?_
              obtain rfl := Option.some.inj hf
              exact rd_vret C9 hlk hret hW ⟨rfl, rfl⟩ (by decide) (by decide) d_N_newDay_194
  · have hf := rd_f hf c2
    obtain rfl := Option.some.inj hf
    exact rd_vret C9 hlk hret hW ⟨rfl, rfl⟩ (by decide) (by decide) d_N_newDay_8
