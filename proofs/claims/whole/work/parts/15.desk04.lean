def f_K_answer (M : rd_M) (p1 : Int32) (p2 : Int32) (p3 : Int32) : Option (String ⊕ (Int32 × rd_M)) :=
  rd_b (f_K_requireRegistrar M p1) fun r1 =>
  rd_b (f_K_requireName M p2) fun r2 =>
  rd_b (f_K_domainThere M p2) fun r3 =>
  if ((M (37 + 8 * r3)).1 10) = (-1) then
    some (.inl "java/util/NoSuchElementException")
  else
    if p1 = ((M (37 + 8 * r3)).1 4) then
      if p3 = 0 then
        (f_K_endTransfer M p2).bind fun r10 =>
        some (.inr (0, r10))
      else
        (f_K_costOf M ((M (37 + 8 * r3)).1 10) 2 1).bind fun r7 =>
        rd_b (f_K_requireMeans M ((M (37 + 8 * r3)).1 10) r7) fun r8 =>
        (f_K_finishTransfer M p2).bind fun r9 =>
        some (.inr (1, r9))
    else
      if p3 = 0 then
        if p1 = ((M (37 + 8 * r3)).1 10) then
          if p3 = 0 then
            (f_K_endTransfer M p2).bind fun r17 =>
            some (.inr (0, r17))
          else
            (f_K_costOf M ((M (37 + 8 * r3)).1 10) 2 1).bind fun r14 =>
            rd_b (f_K_requireMeans M ((M (37 + 8 * r3)).1 10) r14) fun r15 =>
            (f_K_finishTransfer M p2).bind fun r16 =>
            some (.inr (1, r16))
        else
          some (.inl "java/lang/UnsupportedOperationException")
      else
        some (.inl "java/lang/UnsupportedOperationException")
set_option maxRecDepth 100000 in
set_option maxHeartbeats 4000000 in
theorem c_K_answer {l : Launch} (hls : l.stackTraces = false) {D : va_G} {Ka : Nat → ClassId} {ad : Nat → Nat} {M : rd_M} (p1 : Int32) (p2 : Int32) (p3 : Int32)  {o : String ⊕ (Int32 × rd_M)} (hf : f_K_answer M p1 p2 p3 = some o) :
    rd_Met l y_K_answer b_K_answer 5 (some .int) (8, 132, 5, 30) rd_T rd_ss D rd_cl (rd_ty Ka) (dk_L Ka) ad M [.ref (ad 0), .int p1, .int p2, .int p3] (fun r M1 => ∃ v, o = .inr v ∧ r = some (.int v.1) ∧ v.2 = M1) (fun E => o = .inl E) := by
  refine rd_body (by decide) (Nat.le_of_ble_eq_true rfl) ?_
  intro p e s m below meth c C9 hlk hret hnt hTh hW ls hl
  have hx := C9.1.1
  have hb := C9.1.2.1
  have hl : lv_has ls 5 [(0, .ref (ad 0)), (1, .int p1), (2, .int p2), (3, .int p3)] := hl
  unfold f_K_answer at hf
  refine lv_iload_n hx hb d_K_answer_0 rfl (lv_at hl 1 rfl) ?_
  obtain ⟨or1, qr1, xr1, vr1⟩ := rd_b_run hf
  refine rd_callS (As := [.int p1]) (rest := []) rd_gd C9 hTh hW (c_K_requireRegistrar hls p1 qr1) kc_K_requireRegistrar ki_K_requireRegistrar l_K_46 rfl ⟨Nat.le_of_ble_eq_true rfl, Nat.le_of_ble_eq_true rfl⟩ ⟨Nat.le_of_ble_eq_true rfl, Nat.le_of_ble_eq_true rfl⟩ hl.1 rfl (Nat.le_of_ble_eq_true rfl) d_K_answer_1 (fun E ce q9 H locs hex hW h1 h2 h3 => rd_out hnt hlk hW (xr1 E hex) h1 h2 h3 (by decide) (by decide)) (fun rr MM H locs hp hW => ?_)
  obtain ⟨r1, er1, rfl, rfl⟩ := hp
  have hf := vr1 _ er1
  refine lv_iload_n hx hb d_K_answer_4 rfl (lv_at hl 2 rfl) ?_
  obtain ⟨or2, qr2, xr2, vr2⟩ := rd_b_run hf
  refine rd_callS (As := [.int p2]) (rest := []) rd_gd C9 hTh hW (c_K_requireName hls p2 qr2) kc_K_requireName ki_K_requireName l_K_102 rfl ⟨Nat.le_of_ble_eq_true rfl, Nat.le_of_ble_eq_true rfl⟩ ⟨Nat.le_of_ble_eq_true rfl, Nat.le_of_ble_eq_true rfl⟩ hl.1 rfl (Nat.le_of_ble_eq_true rfl) d_K_answer_5 (fun E ce q9 H locs hex hW h1 h2 h3 => rd_out hnt hlk hW (xr2 E hex) h1 h2 h3 (by decide) (by decide)) (fun rr MM H locs hp hW => ?_)
  obtain ⟨r2, er2, rfl, rfl⟩ := hp
  have hf := vr2 _ er2
  refine lv_aload_n hx hb d_K_answer_8 rfl (lv_at hl 0 rfl) ?_
  refine lv_iload_n hx hb d_K_answer_9 rfl (lv_at hl 2 rfl) ?_
  obtain ⟨or3, qr3, xr3, vr3⟩ := rd_b_run hf
  refine rd_callV (As := [.int p2]) (rest := []) rd_gd C9 hTh hW (c_K_domainThere hls p2 qr3) kc_K_domainThere ki_K_domainThere ks_K_domainThere l_K_65 rfl (lt_K) (ce_K) rfl ⟨Nat.le_of_ble_eq_true rfl, Nat.le_of_ble_eq_true rfl⟩ ⟨Nat.le_of_ble_eq_true rfl, Nat.le_of_ble_eq_true rfl⟩ hl.1 rfl (Nat.le_of_ble_eq_true rfl) d_K_answer_10 (fun E ce q9 H locs hex hW h1 h2 h3 => rd_out hnt hlk hW (xr3 E hex) h1 h2 h3 (by decide) (by decide)) (fun rr MM H locs hp hW => ?_)
  obtain ⟨r3, er3, rfl, rfl, br3_0⟩ := hp
  have hf := vr3 _ er3
  refine lv_astore (lv' := [(4, .ref (ad (37 + 8 * r3))), (0, .ref (ad 0)), (1, .int p1), (2, .int p2), (3, .int p3)]) hx hb d_K_answer_13 hl (by decide) rfl (fun ls hl => ?_)
  refine lv_aload hx hb d_K_answer_15 (lv_at hl 0 rfl) ?_
  refine gf_D_transferFor C9 hW br3_0 l_K_193 d_K_answer_17 ?_
  refine lv_iconst (v := (-1)) hx hb d_K_answer_20 (by decide) ?_
  refine lv_icmp_ne (tgt := 34) hx hb d_K_answer_21 (by decide) (fun c4 => ?_) (fun c4 => ?_)
  · have hf := rd_f hf c4
    refine lv_iload_n hx hb d_K_answer_34 rfl (lv_at hl 2 rfl) ?_
    refine lv_aload hx hb d_K_answer_35 (lv_at hl 0 rfl) ?_
    refine gf_D_owner C9 hW br3_0 l_K_69 d_K_answer_37 ?_
    refine lv_icmp_eq (tgt := 66) hx hb d_K_answer_40 (by decide) (fun c5 => ?_) (fun c5 => ?_)
    · have hf := rd_t hf c5
      refine lv_iload_n hx hb d_K_answer_66 rfl (lv_at hl 4 rfl) ?_
      refine lv_if_ne (tgt := 77) hx hb d_K_answer_67 (by decide) (fun c6 => ?_) (fun c6 => ?_)
      · have hf := rd_f hf c6
        refine lv_aload_n hx hb d_K_answer_77 rfl (lv_at hl 1 rfl) ?_
        refine lv_aload hx hb d_K_answer_78 (lv_at hl 0 rfl) ?_
        refine gf_D_transferFor C9 hW br3_0 l_K_193 d_K_answer_80 ?_
        refine lv_aload_n hx hb d_K_answer_83 rfl (lv_at hl 1 rfl) ?_
        refine lv_aload hx hb d_K_answer_84 (lv_at hl 0 rfl) ?_
        refine gf_D_transferFor C9 hW br3_0 l_K_193 d_K_answer_86 ?_
        refine lv_iconst (v := 2) hx hb d_K_answer_89 (by decide) ?_
        refine lv_iconst (v := 1) hx hb d_K_answer_90 (by decide) ?_
        obtain ⟨r7, qr7, hf⟩ := rd_bind hf
        refine rd_callV (As := [.int ((M (37 + 8 * r3)).1 10), .int 2, .int 1]) (rest := [.int ((M (37 + 8 * r3)).1 10), .ref (ad 0)]) rd_gd C9 hTh hW (c_K_costOf hls ((M (37 + 8 * r3)).1 10) 2 1 qr7) kc_K_costOf ki_K_costOf ks_K_costOf l_K_212 rfl (lt_K) (ce_K) rfl ⟨Nat.le_of_ble_eq_true rfl, Nat.le_of_ble_eq_true rfl⟩ ⟨Nat.le_of_ble_eq_true rfl, Nat.le_of_ble_eq_true rfl⟩ hl.1 rfl (Nat.le_of_ble_eq_true rfl) d_K_answer_91 (fun E _ _ _ _ hex => hex.elim) (fun rr MM H locs hp hW => ?_)
        obtain ⟨rfl, rfl⟩ := hp
        obtain ⟨or8, qr8, xr8, vr8⟩ := rd_b_run hf
        refine rd_callV (As := [.int ((M (37 + 8 * r3)).1 10), .double r7]) (rest := []) rd_gd C9 hTh hW (c_K_requireMeans hls ((M (37 + 8 * r3)).1 10) r7 qr8) kc_K_requireMeans ki_K_requireMeans ks_K_requireMeans l_K_215 rfl (lt_K) (ce_K) rfl ⟨Nat.le_of_ble_eq_true rfl, Nat.le_of_ble_eq_true rfl⟩ ⟨Nat.le_of_ble_eq_true rfl, Nat.le_of_ble_eq_true rfl⟩ hl.1 rfl (Nat.le_of_ble_eq_true rfl) d_K_answer_94 (fun E ce q9 H locs hex hW h1 h2 h3 => rd_out hnt hlk hW (xr8 E hex) h1 h2 h3 (by decide) (by decide)) (fun rr MM H locs hp hW => ?_)
        obtain ⟨r8, er8, rfl, rfl⟩ := hp
        have hf := vr8 _ er8
        refine lv_aload_n hx hb d_K_answer_97 rfl (lv_at hl 1 rfl) ?_
        refine lv_iload_n hx hb d_K_answer_98 rfl (lv_at hl 3 rfl) ?_
        obtain ⟨r9, qr9, hf⟩ := rd_bind hf
        refine rd_callV (As := [.int p2]) (rest := []) rd_gd C9 hTh hW (c_K_finishTransfer hls p2 qr9) kc_K_finishTransfer ki_K_finishTransfer ks_K_finishTransfer l_K_219 rfl (lt_K) (ce_K) rfl ⟨Nat.le_of_ble_eq_true rfl, Nat.le_of_ble_eq_true rfl⟩ ⟨Nat.le_of_ble_eq_true rfl, Nat.le_of_ble_eq_true rfl⟩ hl.1 rfl (Nat.le_of_ble_eq_true rfl) d_K_answer_99 (fun E _ _ _ _ hex => hex.elim) (fun rr MM H locs hp hW => ?_)
        obtain ⟨rfl, rfl⟩ := hp
        refine lv_iconst (v := 1) hx hb d_K_answer_102 (by decide) ?_
        obtain rfl := Option.some.inj hf
        exact rd_iret C9 hlk hret hW ⟨_, rfl, rfl, rfl⟩ (by decide) (by decide) d_K_answer_103
      · have hf := rd_t hf c6
        refine lv_aload_n hx hb d_K_answer_70 rfl (lv_at hl 1 rfl) ?_
        refine lv_iload_n hx hb d_K_answer_71 rfl (lv_at hl 3 rfl) ?_
        obtain ⟨r10, qr10, hf⟩ := rd_bind hf
        refine rd_callV (As := [.int p2]) (rest := []) rd_gd C9 hTh hW (c_K_endTransfer hls p2 qr10) kc_K_endTransfer ki_K_endTransfer ks_K_endTransfer l_K_209 rfl (lt_K) (ce_K) rfl ⟨Nat.le_of_ble_eq_true rfl, Nat.le_of_ble_eq_true rfl⟩ ⟨Nat.le_of_ble_eq_true rfl, Nat.le_of_ble_eq_true rfl⟩ hl.1 rfl (Nat.le_of_ble_eq_true rfl) d_K_answer_72 (fun E _ _ _ _ hex => hex.elim) (fun rr MM H locs hp hW => ?_)
        obtain ⟨rfl, rfl⟩ := hp
        refine lv_iconst (v := 0) hx hb d_K_answer_75 (by decide) ?_
        obtain rfl := Option.some.inj hf
        exact rd_iret C9 hlk hret hW ⟨_, rfl, rfl, rfl⟩ (by decide) (by decide) d_K_answer_76
    · have hf := rd_f hf c5
      refine lv_iload_n hx hb d_K_answer_43 rfl (lv_at hl 4 rfl) ?_
      refine lv_if_ne (tgt := 56) hx hb d_K_answer_44 (by decide) (fun c11 => ?_) (fun c11 => ?_)
      · have hf := rd_f hf c11
        obtain rfl := Option.some.inj hf
        exact rd_throw (text := "that answer is another registrar's to give") (names := ["java/lang/RuntimeException", "java/lang/Exception"]) hls C9 hnt hlk hTh hW hl.1 rd_gd (by decide) (by decide) l_K_188 in_UnsupportedOperationException (List.mem_of_getElem? (i := 19) rfl) ta_K_UnsupportedOperationException d_K_answer_56 d_K_answer_59 d_K_answer_60 d_K_answer_62 d_K_answer_65 (Nat.le_of_ble_eq_true rfl) (Nat.le_of_ble_eq_true rfl) (Nat.le_of_ble_eq_true rfl) (Nat.le_of_ble_eq_true rfl) rfl (Nat.le_of_ble_eq_true rfl) (Nat.le_of_ble_eq_true rfl)
      · have hf := rd_t hf c11
        refine lv_iload_n hx hb d_K_answer_47 rfl (lv_at hl 2 rfl) ?_
        refine lv_aload hx hb d_K_answer_48 (lv_at hl 0 rfl) ?_
        refine gf_D_transferFor C9 hW br3_0 l_K_193 d_K_answer_50 ?_
        refine lv_icmp_eq (tgt := 66) hx hb d_K_answer_53 (by decide) (fun c12 => ?_) (fun c12 => ?_)
        · have hf := rd_t hf c12
          refine lv_iload_n hx hb d_K_answer_66 rfl (lv_at hl 4 rfl) ?_
          refine lv_if_ne (tgt := 77) hx hb d_K_answer_67 (by decide) (fun c13 => ?_) (fun c13 => ?_)
          · have hf := rd_f hf c13
            refine lv_aload_n hx hb d_K_answer_77 rfl (lv_at hl 1 rfl) ?_
            refine lv_aload hx hb d_K_answer_78 (lv_at hl 0 rfl) ?_
            refine gf_D_transferFor C9 hW br3_0 l_K_193 d_K_answer_80 ?_
            refine lv_aload_n hx hb d_K_answer_83 rfl (lv_at hl 1 rfl) ?_
            refine lv_aload hx hb d_K_answer_84 (lv_at hl 0 rfl) ?_
            refine gf_D_transferFor C9 hW br3_0 l_K_193 d_K_answer_86 ?_
            refine lv_iconst (v := 2) hx hb d_K_answer_89 (by decide) ?_
            refine lv_iconst (v := 1) hx hb d_K_answer_90 (by decide) ?_
            obtain ⟨r14, qr14, hf⟩ := rd_bind hf
            refine rd_callV (As := [.int ((M (37 + 8 * r3)).1 10), .int 2, .int 1]) (rest := [.int ((M (37 + 8 * r3)).1 10), .ref (ad 0)]) rd_gd C9 hTh hW (c_K_costOf hls ((M (37 + 8 * r3)).1 10) 2 1 qr14) kc_K_costOf ki_K_costOf ks_K_costOf l_K_212 rfl (lt_K) (ce_K) rfl ⟨Nat.le_of_ble_eq_true rfl, Nat.le_of_ble_eq_true rfl⟩ ⟨Nat.le_of_ble_eq_true rfl, Nat.le_of_ble_eq_true rfl⟩ hl.1 rfl (Nat.le_of_ble_eq_true rfl) d_K_answer_91 (fun E _ _ _ _ hex => hex.elim) (fun rr MM H locs hp hW => ?_)
            obtain ⟨rfl, rfl⟩ := hp
            obtain ⟨or15, qr15, xr15, vr15⟩ := rd_b_run hf
            refine rd_callV (As := [.int ((M (37 + 8 * r3)).1 10), .double r14]) (rest := []) rd_gd C9 hTh hW (c_K_requireMeans hls ((M (37 + 8 * r3)).1 10) r14 qr15) kc_K_requireMeans ki_K_requireMeans ks_K_requireMeans l_K_215 rfl (lt_K) (ce_K) rfl ⟨Nat.le_of_ble_eq_true rfl, Nat.le_of_ble_eq_true rfl⟩ ⟨Nat.le_of_ble_eq_true rfl, Nat.le_of_ble_eq_true rfl⟩ hl.1 rfl (Nat.le_of_ble_eq_true rfl) d_K_answer_94 (fun E ce q9 H locs hex hW h1 h2 h3 => rd_out hnt hlk hW (xr15 E hex) h1 h2 h3 (by decide) (by decide)) (fun rr MM H locs hp hW => ?_)
            obtain ⟨r15, er15, rfl, rfl⟩ := hp
            have hf := vr15 _ er15
            refine lv_aload_n hx hb d_K_answer_97 rfl (lv_at hl 1 rfl) ?_
            refine lv_iload_n hx hb d_K_answer_98 rfl (lv_at hl 3 rfl) ?_
            obtain ⟨r16, qr16, hf⟩ := rd_bind hf
            refine rd_callV (As := [.int p2]) (rest := []) rd_gd C9 hTh hW (c_K_finishTransfer hls p2 qr16) kc_K_finishTransfer ki_K_finishTransfer ks_K_finishTransfer l_K_219 rfl (lt_K) (ce_K) rfl ⟨Nat.le_of_ble_eq_true rfl, Nat.le_of_ble_eq_true rfl⟩ ⟨Nat.le_of_ble_eq_true rfl, Nat.le_of_ble_eq_true rfl⟩ hl.1 rfl (Nat.le_of_ble_eq_true rfl) d_K_answer_99 (fun E _ _ _ _ hex => hex.elim) (fun rr MM H locs hp hW => ?_)
            obtain ⟨rfl, rfl⟩ := hp
            refine lv_iconst (v := 1) hx hb d_K_answer_102 (by decide) ?_
            obtain rfl := Option.some.inj hf
            exact rd_iret C9 hlk hret hW ⟨_, rfl, rfl, rfl⟩ (by decide) (by decide) d_K_answer_103
          · have hf := rd_t hf c13
            refine lv_aload_n hx hb d_K_answer_70 rfl (lv_at hl 1 rfl) ?_
            refine lv_iload_n hx hb d_K_answer_71 rfl (lv_at hl 3 rfl) ?_
            obtain ⟨r17, qr17, hf⟩ := rd_bind hf
            refine rd_callV (As := [.int p2]) (rest := []) rd_gd C9 hTh hW (c_K_endTransfer hls p2 qr17) kc_K_endTransfer ki_K_endTransfer ks_K_endTransfer l_K_209 rfl (lt_K) (ce_K) rfl ⟨Nat.le_of_ble_eq_true rfl, Nat.le_of_ble_eq_true rfl⟩ ⟨Nat.le_of_ble_eq_true rfl, Nat.le_of_ble_eq_true rfl⟩ hl.1 rfl (Nat.le_of_ble_eq_true rfl) d_K_answer_72 (fun E _ _ _ _ hex => hex.elim) (fun rr MM H locs hp hW => ?_)
            obtain ⟨rfl, rfl⟩ := hp
            refine lv_iconst (v := 0) hx hb d_K_answer_75 (by decide) ?_
            obtain rfl := Option.some.inj hf
            exact rd_iret C9 hlk hret hW ⟨_, rfl, rfl, rfl⟩ (by decide) (by decide) d_K_answer_76
        · have hf := rd_f hf c12
          obtain rfl := Option.some.inj hf
          exact rd_throw (text := "that answer is another registrar's to give") (names := ["java/lang/RuntimeException", "java/lang/Exception"]) hls C9 hnt hlk hTh hW hl.1 rd_gd (by decide) (by decide) l_K_188 in_UnsupportedOperationException (List.mem_of_getElem? (i := 19) rfl) ta_K_UnsupportedOperationException d_K_answer_56 d_K_answer_59 d_K_answer_60 d_K_answer_62 d_K_answer_65 (Nat.le_of_ble_eq_true rfl) (Nat.le_of_ble_eq_true rfl) (Nat.le_of_ble_eq_true rfl) (Nat.le_of_ble_eq_true rfl) rfl (Nat.le_of_ble_eq_true rfl) (Nat.le_of_ble_eq_true rfl)
  · have hf := rd_t hf c4
    obtain rfl := Option.some.inj hf
    exact rd_throwX (text := "no transfer waits") (Y1 := "java/lang/RuntimeException") (names := ["java/lang/Exception"]) hls C9 hnt hlk hTh hW hl.1 dn_0 dn_1 dn_2 dn_5 (by decide) rd_gd (by decide) (by decide) l_K_202 in_NoSuchElementException (List.mem_of_getElem? (i := 18) rfl) ta_K_NoSuchElementException d_K_answer_24 d_K_answer_27 d_K_answer_28 d_K_answer_30 d_K_answer_33 (Nat.le_of_ble_eq_true rfl) (Nat.le_of_ble_eq_true rfl) (Nat.le_of_ble_eq_true rfl) (Nat.le_of_ble_eq_true rfl) rfl (Nat.le_of_ble_eq_true rfl) (Nat.le_of_ble_eq_true rfl)
def f_K_settleTransfer (M : rd_M) (p1 : Int32) : Option (rd_M) :=
  if rd_in p1 10 then
  if ((M (37 + 8 * p1.toNatClampNeg)).1 10) = (-1) then
    some M
  else
    if ((M (37 + 8 * p1.toNatClampNeg)).1 11) < ((M 0).1 4) then
      if rd_in ((M (37 + 8 * p1.toNatClampNeg)).1 10) 4 then
      (f_K_costOf M ((M (37 + 8 * p1.toNatClampNeg)).1 10) 2 1).bind fun r5 =>
      if 0 ≤ (Op.cmpValue (FP.dcmp ((M (3 + 3 * (((M (37 + 8 * p1.toNatClampNeg)).1 10).toNatClampNeg))).2.2 2) r5) .g) then
        (f_K_finishTransfer M p1).bind fun r7 =>
        some r7
      else
        (f_K_endTransfer M p1).bind fun r8 =>
        some r8
      else none
    else
      some M
  else none
set_option maxRecDepth 100000 in
set_option maxHeartbeats 4000000 in
theorem c_K_settleTransfer {l : Launch} (hls : l.stackTraces = false) {D : va_G} {Ka : Nat → ClassId} {ad : Nat → Nat} {M : rd_M} (p1 : Int32)  {o : rd_M} (hf : f_K_settleTransfer M p1 = some o) :
    rd_Met l y_K_settleTransfer b_K_settleTransfer 4 none (4, 92, 0, 0) rd_T rd_ss D rd_cl (rd_ty Ka) (dk_L Ka) ad M [.ref (ad 0), .int p1] (fun r M1 => r = none ∧ o = M1) (fun _ => False) := by
  refine rd_body (by decide) (Nat.le_of_ble_eq_true rfl) ?_
  intro p e s m below meth c C9 hlk hret hnt hTh hW ls hl
  have hx := C9.1.1
  have hb := C9.1.2.1
  have hl : lv_has ls 4 [(0, .ref (ad 0)), (1, .int p1)] := hl
  unfold f_K_settleTransfer at hf
  refine lv_aload_n hx hb d_K_settleTransfer_0 rfl (lv_at hl 0 rfl) ?_
  refine gf_K_domains C9 hW l_K_29 d_K_settleTransfer_1 ?_
  refine lv_iload_n hx hb d_K_settleTransfer_4 rfl (lv_at hl 1 rfl) ?_
  obtain ⟨g1, hf⟩ := rd_g hf
  refine al_domains C9 hW rfl g1 d_K_settleTransfer_5 ?_
  refine lv_astore_n (lv' := [(2, .ref (ad (37 + 8 * p1.toNatClampNeg))), (0, .ref (ad 0)), (1, .int p1)]) hx hb d_K_settleTransfer_6 rfl hl (by decide) rfl (fun ls hl => ?_)
  refine lv_aload_n hx hb d_K_settleTransfer_7 rfl (lv_at hl 0 rfl) ?_
  refine gf_D_transferFor C9 hW (rd_lt g1) l_K_193 d_K_settleTransfer_8 ?_
  refine lv_istore_n (lv' := [(3, .int ((M (37 + 8 * p1.toNatClampNeg)).1 10)), (2, .ref (ad (37 + 8 * p1.toNatClampNeg))), (0, .ref (ad 0)), (1, .int p1)]) hx hb d_K_settleTransfer_11 rfl hl (by decide) rfl (fun ls hl => ?_)
  refine lv_iload_n hx hb d_K_settleTransfer_12 rfl (lv_at hl 0 rfl) ?_
  refine lv_iconst (v := (-1)) hx hb d_K_settleTransfer_13 (by decide) ?_
  refine lv_icmp_eq (tgt := 28) hx hb d_K_settleTransfer_14 (by decide) (fun c2 => ?_) (fun c2 => ?_)
  · have hf := rd_t hf c2
    obtain rfl := Option.some.inj hf
    exact rd_vret C9 hlk hret hW ⟨rfl, rfl⟩ (by decide) (by decide) d_K_settleTransfer_28
  · have hf := rd_f hf c2
    refine lv_aload_n hx hb d_K_settleTransfer_17 rfl (lv_at hl 1 rfl) ?_
    refine gf_D_transferTill C9 hW (rd_lt g1) l_K_196 d_K_settleTransfer_18 ?_
    refine lv_aload_n hx hb d_K_settleTransfer_21 rfl (lv_at hl 2 rfl) ?_
    refine gf_K_today C9 hW l_K_34 d_K_settleTransfer_22 ?_
    refine lv_icmp_lt (tgt := 29) hx hb d_K_settleTransfer_25 (by decide) (fun c3 => ?_) (fun c3 => ?_)
    · have hf := rd_t hf c3
      refine lv_aload_n hx hb d_K_settleTransfer_29 rfl (lv_at hl 2 rfl) ?_
      refine gf_K_accounts C9 hW l_K_15 d_K_settleTransfer_30 ?_
      refine lv_iload_n hx hb d_K_settleTransfer_33 rfl (lv_at hl 0 rfl) ?_
      obtain ⟨g4, hf⟩ := rd_g hf
      refine al_accounts C9 hW rfl g4 d_K_settleTransfer_34 ?_
      refine gf_A_balance C9 hW (rd_lt g4) l_K_53 d_K_settleTransfer_35 ?_
      refine lv_aload_n hx hb d_K_settleTransfer_38 rfl (lv_at hl 2 rfl) ?_
      refine lv_iload_n hx hb d_K_settleTransfer_39 rfl (lv_at hl 0 rfl) ?_
      refine lv_iconst (v := 2) hx hb d_K_settleTransfer_40 (by decide) ?_
      refine lv_iconst (v := 1) hx hb d_K_settleTransfer_41 (by decide) ?_
      obtain ⟨r5, qr5, hf⟩ := rd_bind hf
      refine rd_callV (As := [.int ((M (37 + 8 * p1.toNatClampNeg)).1 10), .int 2, .int 1]) (rest := [.double ((M (3 + 3 * (((M (37 + 8 * p1.toNatClampNeg)).1 10).toNatClampNeg))).2.2 2)]) rd_gd C9 hTh hW (c_K_costOf hls ((M (37 + 8 * p1.toNatClampNeg)).1 10) 2 1 qr5) kc_K_costOf ki_K_costOf ks_K_costOf l_K_212 rfl (lt_K) (ce_K) rfl ⟨Nat.le_of_ble_eq_true rfl, Nat.le_of_ble_eq_true rfl⟩ ⟨Nat.le_of_ble_eq_true rfl, Nat.le_of_ble_eq_true rfl⟩ hl.1 rfl (Nat.le_of_ble_eq_true rfl) d_K_settleTransfer_42 (fun E _ _ _ _ hex => hex.elim) (fun rr MM H locs hp hW => ?_)
      obtain ⟨rfl, rfl⟩ := hp
      refine lv_dcmp hx hb d_K_settleTransfer_45 ?_
      refine lv_if_ge (tgt := 57) hx hb d_K_settleTransfer_46 (by decide) (fun c6 => ?_) (fun c6 => ?_)
      · have hf := rd_t hf c6
        refine lv_aload_n hx hb d_K_settleTransfer_57 rfl (lv_at hl 2 rfl) ?_
        refine lv_iload_n hx hb d_K_settleTransfer_58 rfl (lv_at hl 3 rfl) ?_
        obtain ⟨r7, qr7, hf⟩ := rd_bind hf
        refine rd_callV (As := [.int p1]) (rest := []) rd_gd C9 hTh hW (c_K_finishTransfer hls p1 qr7) kc_K_finishTransfer ki_K_finishTransfer ks_K_finishTransfer l_K_219 rfl (lt_K) (ce_K) rfl ⟨Nat.le_of_ble_eq_true rfl, Nat.le_of_ble_eq_true rfl⟩ ⟨Nat.le_of_ble_eq_true rfl, Nat.le_of_ble_eq_true rfl⟩ hl.1 rfl (Nat.le_of_ble_eq_true rfl) d_K_settleTransfer_59 (fun E _ _ _ _ hex => hex.elim) (fun rr MM H locs hp hW => ?_)
        obtain ⟨rfl, rfl⟩ := hp
        obtain rfl := Option.some.inj hf
        exact rd_vret C9 hlk hret hW ⟨rfl, rfl⟩ (by decide) (by decide) d_K_settleTransfer_62
      · have hf := rd_f hf c6
        refine lv_aload_n hx hb d_K_settleTransfer_49 rfl (lv_at hl 2 rfl) ?_
        refine lv_iload_n hx hb d_K_settleTransfer_50 rfl (lv_at hl 3 rfl) ?_
        obtain ⟨r8, qr8, hf⟩ := rd_bind hf
        refine rd_callV (As := [.int p1]) (rest := []) rd_gd C9 hTh hW (c_K_endTransfer hls p1 qr8) kc_K_endTransfer ki_K_endTransfer ks_K_endTransfer l_K_209 rfl (lt_K) (ce_K) rfl ⟨Nat.le_of_ble_eq_true rfl, Nat.le_of_ble_eq_true rfl⟩ ⟨Nat.le_of_ble_eq_true rfl, Nat.le_of_ble_eq_true rfl⟩ hl.1 rfl (Nat.le_of_ble_eq_true rfl) d_K_settleTransfer_51 (fun E _ _ _ _ hex => hex.elim) (fun rr MM H locs hp hW => ?_)
        obtain ⟨rfl, rfl⟩ := hp
        refine lv_goto (tgt := 62) hx hb d_K_settleTransfer_54 (by decide) ?_
        obtain rfl := Option.some.inj hf
        exact rd_vret C9 hlk hret hW ⟨rfl, rfl⟩ (by decide) (by decide) d_K_settleTransfer_62
    · have hf := rd_f hf c3
      obtain rfl := Option.some.inj hf
      exact rd_vret C9 hlk hret hW ⟨rfl, rfl⟩ (by decide) (by decide) d_K_settleTransfer_28
def f_K_renewByItself (M : rd_M) (r1_0 : Nat) : Option (rd_M) :=
  (f_K_costOf M ((M (37 + 8 * r1_0)).1 4) 1 1).bind fun r1 =>
  if rd_in ((M (37 + 8 * r1_0)).1 4) 4 then
  (f_A_spend M (((M (37 + 8 * r1_0)).1 4).toNatClampNeg) 1 r1).bind fun r3 =>
  rd_k (rd_iU r3 (37 + 8 * r1_0) 5 (((r3 (37 + 8 * r1_0)).1 5) + 10)) fun M4 =>
  (f_D_setGrace M4 r1_0 4 r1 (((M4 0).1 4) + 4)).bind fun r5 =>
  some r5
  else none
set_option maxRecDepth 100000 in
set_option maxHeartbeats 4000000 in
theorem c_K_renewByItself {l : Launch} (hls : l.stackTraces = false) {D : va_G} {Ka : Nat → ClassId} {ad : Nat → Nat} {M : rd_M} (r1_0 : Nat) (h1_0 : r1_0 < 10) {o : rd_M} (hf : f_K_renewByItself M r1_0 = some o) :
    rd_Met l y_K_renewByItself b_K_renewByItself 4 none (1, 25, 0, 0) rd_T rd_ss D rd_cl (rd_ty Ka) (dk_L Ka) ad M [.ref (ad 0), .ref (ad (37 + 8 * r1_0))] (fun r M1 => r = none ∧ o = M1) (fun _ => False) := by
  refine rd_body (by decide) (Nat.le_of_ble_eq_true rfl) ?_
  intro p e s m below meth c C9 hlk hret hnt hTh hW ls hl
  have hx := C9.1.1
  have hb := C9.1.2.1
  have hl : lv_has ls 4 [(0, .ref (ad 0)), (1, .ref (ad (37 + 8 * r1_0)))] := hl
  unfold f_K_renewByItself at hf
  refine lv_aload_n hx hb d_K_renewByItself_0 rfl (lv_at hl 0 rfl) ?_
  refine lv_aload_n hx hb d_K_renewByItself_1 rfl (lv_at hl 1 rfl) ?_
  refine gf_D_owner C9 hW h1_0 l_K_69 d_K_renewByItself_2 ?_
  refine lv_iconst (v := 1) hx hb d_K_renewByItself_5 (by decide) ?_
  refine lv_iconst (v := 1) hx hb d_K_renewByItself_6 (by decide) ?_
  obtain ⟨r1, qr1, hf⟩ := rd_bind hf
  refine rd_callV (As := [.int ((M (37 + 8 * r1_0)).1 4), .int 1, .int 1]) (rest := []) rd_gd C9 hTh hW (c_K_costOf hls ((M (37 + 8 * r1_0)).1 4) 1 1 qr1) kc_K_costOf ki_K_costOf ks_K_costOf l_K_212 rfl (lt_K) (ce_K) rfl ⟨Nat.le_of_ble_eq_true rfl, Nat.le_of_ble_eq_true rfl⟩ ⟨Nat.le_of_ble_eq_true rfl, Nat.le_of_ble_eq_true rfl⟩ hl.1 rfl (Nat.le_of_ble_eq_true rfl) d_K_renewByItself_7 (fun E _ _ _ _ hex => hex.elim) (fun rr MM H locs hp hW => ?_)
  obtain ⟨rfl, rfl⟩ := hp
  refine lv_dstore_n (lv' := [(2, .double r1), (0, .ref (ad 0)), (1, .ref (ad (37 + 8 * r1_0)))]) hx hb d_K_renewByItself_10 rfl hl (by decide) rfl (fun ls hl => ?_)
  refine lv_aload_n hx hb d_K_renewByItself_11 rfl (lv_at hl 1 rfl) ?_
  refine gf_K_accounts C9 hW l_K_15 d_K_renewByItself_12 ?_
  refine lv_aload_n hx hb d_K_renewByItself_15 rfl (lv_at hl 2 rfl) ?_
  refine gf_D_owner C9 hW h1_0 l_K_69 d_K_renewByItself_16 ?_
  obtain ⟨g2, hf⟩ := rd_g hf
  refine al_accounts C9 hW rfl g2 d_K_renewByItself_19 ?_
  refine lv_iconst (v := 1) hx hb d_K_renewByItself_20 (by decide) ?_
  refine lv_dload_n hx hb d_K_renewByItself_21 rfl (lv_at hl 0 rfl) ?_
  obtain ⟨r3, qr3, hf⟩ := rd_bind hf
  refine rd_callV (As := [.int 1, .double r1]) (rest := []) rd_gd C9 hTh hW (c_A_spend hls (((M (37 + 8 * r1_0)).1 4).toNatClampNeg) 1 r1 (rd_lt g2) qr3) kc_A_spend ki_A_spend ks_A_spend l_K_322 rfl (lt_A (rd_lt g2)) (ce_A (rd_lt g2)) rfl ⟨Nat.le_of_ble_eq_true rfl, Nat.le_of_ble_eq_true rfl⟩ ⟨Nat.le_of_ble_eq_true rfl, Nat.le_of_ble_eq_true rfl⟩ hl.1 rfl (Nat.le_of_ble_eq_true rfl) d_K_renewByItself_22 (fun E _ _ _ _ hex => hex.elim) (fun rr MM H locs hp hW => ?_)
  obtain ⟨rfl, rfl⟩ := hp
  refine lv_aload_n hx hb d_K_renewByItself_25 rfl (lv_at hl 2 rfl) ?_
  refine lv_dup hx hb d_K_renewByItself_26 rfl ?_
  refine gf_D_expiry C9 hW h1_0 l_K_120 d_K_renewByItself_27 ?_
  refine lv_bipush (v := 10) hx hb d_K_renewByItself_30 (by decide) ?_
  refine lv_iadd hx hb d_K_renewByItself_32 ?_
  refine pf_D_expiry C9 hW h1_0 l_K_120 d_K_renewByItself_33 (fun H locs hW => ?_)
  obtain ⟨M4, hM4, hf⟩ := rd_k_el hf
  rw [← hM4] at hW
  refine lv_aload_n hx hb d_K_renewByItself_36 rfl (lv_at hl 2 rfl) ?_
  refine lv_iconst (v := 4) hx hb d_K_renewByItself_37 (by decide) ?_
  refine lv_dload_n hx hb d_K_renewByItself_38 rfl (lv_at hl 0 rfl) ?_
  refine lv_aload_n hx hb d_K_renewByItself_39 rfl (lv_at hl 1 rfl) ?_
  refine gf_K_today C9 hW l_K_34 d_K_renewByItself_40 ?_
  refine lv_iconst (v := 4) hx hb d_K_renewByItself_43 (by decide) ?_
  refine lv_iadd hx hb d_K_renewByItself_44 ?_
  obtain ⟨r5, qr5, hf⟩ := rd_bind hf
  refine rd_callV (As := [.int 4, .double r1, .int (((M4 0).1 4) + 4)]) (rest := []) rd_gd C9 hTh hW (c_D_setGrace hls r1_0 4 r1 (((M4 0).1 4) + 4) h1_0 qr5) kc_D_setGrace ki_D_setGrace ks_D_setGrace l_K_116 rfl (lt_D h1_0) (ce_D h1_0) rfl ⟨Nat.le_of_ble_eq_true rfl, Nat.le_of_ble_eq_true rfl⟩ ⟨Nat.le_of_ble_eq_true rfl, Nat.le_of_ble_eq_true rfl⟩ hl.1 rfl (Nat.le_of_ble_eq_true rfl) d_K_renewByItself_45 (fun E _ _ _ _ hex => hex.elim) (fun rr MM H locs hp hW => ?_)
  obtain ⟨rfl, rfl⟩ := hp
  obtain rfl := Option.some.inj hf
  exact rd_vret C9 hlk hret hW ⟨rfl, rfl⟩ (by decide) (by decide) d_K_renewByItself_48
def f_K_moveOn (M : rd_M) (p1 : Int32) : Option (rd_M) :=
  if rd_in p1 10 then
  if ((M (37 + 8 * p1.toNatClampNeg)).1 8) = 0 then
    if ((M 0).1 4) ≤ ((M (37 + 8 * p1.toNatClampNeg)).1 5) then
      some M
    else
      (f_K_renewByItself M p1.toNatClampNeg).bind fun r10 =>
      some r10
  else
    if ((M 0).1 4) ≤ ((M (37 + 8 * p1.toNatClampNeg)).1 9) then
      some M
    else
      if ((M (37 + 8 * p1.toNatClampNeg)).1 8) = 1 then
        (f_D_enter M p1.toNatClampNeg 2 (((M (37 + 8 * p1.toNatClampNeg)).1 9) + 2)).bind fun r8 =>
        some r8
      else
        (f_K_dropDomain M p1).bind fun r5 =>
        if rd_in ((r5 (37 + 8 * p1.toNatClampNeg)).1 4) 4 then
        (f_A_tell r5 (((r5 (37 + 8 * p1.toNatClampNeg)).1 4).toNatClampNeg) 4 p1).bind fun r7 =>
        some r7
        else none
  else none
set_option maxRecDepth 100000 in
set_option maxHeartbeats 4000000 in
theorem c_K_moveOn {l : Launch} (hls : l.stackTraces = false) {D : va_G} {Ka : Nat → ClassId} {ad : Nat → Nat} {M : rd_M} (p1 : Int32)  {o : rd_M} (hf : f_K_moveOn M p1 = some o) :
    rd_Met l y_K_moveOn b_K_moveOn 3 none (4, 89, 0, 0) rd_T rd_ss D rd_cl (rd_ty Ka) (dk_L Ka) ad M [.ref (ad 0), .int p1] (fun r M1 => r = none ∧ o = M1) (fun _ => False) := by
  refine rd_body (by decide) (Nat.le_of_ble_eq_true rfl) ?_
  intro p e s m below meth c C9 hlk hret hnt hTh hW ls hl
  have hx := C9.1.1
  have hb := C9.1.2.1
  have hl : lv_has ls 3 [(0, .ref (ad 0)), (1, .int p1)] := hl
  unfold f_K_moveOn at hf
  refine lv_aload_n hx hb d_K_moveOn_0 rfl (lv_at hl 0 rfl) ?_
  refine gf_K_domains C9 hW l_K_29 d_K_moveOn_1 ?_
  refine lv_iload_n hx hb d_K_moveOn_4 rfl (lv_at hl 1 rfl) ?_
  obtain ⟨g1, hf⟩ := rd_g hf
  refine al_domains C9 hW rfl g1 d_K_moveOn_5 ?_
  refine lv_astore_n (lv' := [(2, .ref (ad (37 + 8 * p1.toNatClampNeg))), (0, .ref (ad 0)), (1, .int p1)]) hx hb d_K_moveOn_6 rfl hl (by decide) rfl (fun ls hl => ?_)
  refine lv_aload_n hx hb d_K_moveOn_7 rfl (lv_at hl 0 rfl) ?_
  refine gf_D_state C9 hW (rd_lt g1) l_K_242 d_K_moveOn_8 ?_
  refine lv_if_ne (tgt := 33) hx hb d_K_moveOn_11 (by decide) (fun c2 => ?_) (fun c2 => ?_)
  · have hf := rd_f hf c2
    refine lv_aload_n hx hb d_K_moveOn_33 rfl (lv_at hl 0 rfl) ?_
    refine gf_D_stateEnd C9 hW (rd_lt g1) l_K_337 d_K_moveOn_34 ?_
    refine lv_aload_n hx hb d_K_moveOn_37 rfl (lv_at hl 1 rfl) ?_
    refine gf_K_today C9 hW l_K_34 d_K_moveOn_38 ?_
    refine lv_icmp_ge (tgt := 85) hx hb d_K_moveOn_41 (by decide) (fun c3 => ?_) (fun c3 => ?_)
    · have hf := rd_t hf c3
      obtain rfl := Option.some.inj hf
      exact rd_vret C9 hlk hret hW ⟨rfl, rfl⟩ (by decide) (by decide) d_K_moveOn_85
    · have hf := rd_f hf c3
      refine lv_aload_n hx hb d_K_moveOn_44 rfl (lv_at hl 0 rfl) ?_
      refine gf_D_state C9 hW (rd_lt g1) l_K_242 d_K_moveOn_45 ?_
      refine lv_iconst (v := 1) hx hb d_K_moveOn_48 (by decide) ?_
      refine lv_icmp_ne (tgt := 66) hx hb d_K_moveOn_49 (by decide) (fun c4 => ?_) (fun c4 => ?_)
      · have hf := rd_f hf c4
        refine lv_aload_n hx hb d_K_moveOn_66 rfl (lv_at hl 1 rfl) ?_
        refine lv_iload_n hx hb d_K_moveOn_67 rfl (lv_at hl 2 rfl) ?_
        obtain ⟨r5, qr5, hf⟩ := rd_bind hf
        refine rd_callV (As := [.int p1]) (rest := []) rd_gd C9 hTh hW (c_K_dropDomain hls p1 qr5) kc_K_dropDomain ki_K_dropDomain ks_K_dropDomain l_K_176 rfl (lt_K) (ce_K) rfl ⟨Nat.le_of_ble_eq_true rfl, Nat.le_of_ble_eq_true rfl⟩ ⟨Nat.le_of_ble_eq_true rfl, Nat.le_of_ble_eq_true rfl⟩ hl.1 rfl (Nat.le_of_ble_eq_true rfl) d_K_moveOn_68 (fun E _ _ _ _ hex => hex.elim) (fun rr MM H locs hp hW => ?_)
        obtain ⟨rfl, rfl⟩ := hp
        refine lv_aload_n hx hb d_K_moveOn_71 rfl (lv_at hl 1 rfl) ?_
        refine gf_K_accounts C9 hW l_K_15 d_K_moveOn_72 ?_
        refine lv_aload_n hx hb d_K_moveOn_75 rfl (lv_at hl 0 rfl) ?_
        refine gf_D_owner C9 hW (rd_lt g1) l_K_69 d_K_moveOn_76 ?_
        obtain ⟨g6, hf⟩ := rd_g hf
        refine al_accounts C9 hW rfl g6 d_K_moveOn_79 ?_
        refine lv_iconst (v := 4) hx hb d_K_moveOn_80 (by decide) ?_
        refine lv_iload_n hx hb d_K_moveOn_81 rfl (lv_at hl 2 rfl) ?_
        obtain ⟨r7, qr7, hf⟩ := rd_bind hf
        refine rd_callV (As := [.int 4, .int p1]) (rest := []) rd_gd C9 hTh hW (c_A_tell hls (((r5 (37 + 8 * p1.toNatClampNeg)).1 4).toNatClampNeg) 4 p1 (rd_lt g6) qr7) kc_A_tell ki_A_tell ks_A_tell l_K_199 rfl (lt_A (rd_lt g6)) (ce_A (rd_lt g6)) rfl ⟨Nat.le_of_ble_eq_true rfl, Nat.le_of_ble_eq_true rfl⟩ ⟨Nat.le_of_ble_eq_true rfl, Nat.le_of_ble_eq_true rfl⟩ hl.1 rfl (Nat.le_of_ble_eq_true rfl) d_K_moveOn_82 (fun E _ _ _ _ hex => hex.elim) (fun rr MM H locs hp hW => ?_)
        obtain ⟨rfl, rfl⟩ := hp
        obtain rfl := Option.some.inj hf
        exact rd_vret C9 hlk hret hW ⟨rfl, rfl⟩ (by decide) (by decide) d_K_moveOn_85
      · have hf := rd_t hf c4
        refine lv_aload_n hx hb d_K_moveOn_52 rfl (lv_at hl 0 rfl) ?_
        refine lv_iconst (v := 2) hx hb d_K_moveOn_53 (by decide) ?_
        refine lv_aload_n hx hb d_K_moveOn_54 rfl (lv_at hl 0 rfl) ?_
        refine gf_D_stateEnd C9 hW (rd_lt g1) l_K_337 d_K_moveOn_55 ?_
        refine lv_iconst (v := 2) hx hb d_K_moveOn_58 (by decide) ?_
        refine lv_iadd hx hb d_K_moveOn_59 ?_
        obtain ⟨r8, qr8, hf⟩ := rd_bind hf
        refine rd_callV (As := [.int 2, .int (((M (37 + 8 * p1.toNatClampNeg)).1 9) + 2)]) (rest := []) rd_gd C9 hTh hW (c_D_enter hls p1.toNatClampNeg 2 (((M (37 + 8 * p1.toNatClampNeg)).1 9) + 2) (rd_lt g1) qr8) kc_D_enter ki_D_enter ks_D_enter l_K_182 rfl (lt_D (rd_lt g1)) (ce_D (rd_lt g1)) rfl ⟨Nat.le_of_ble_eq_true rfl, Nat.le_of_ble_eq_true rfl⟩ ⟨Nat.le_of_ble_eq_true rfl, Nat.le_of_ble_eq_true rfl⟩ hl.1 rfl (Nat.le_of_ble_eq_true rfl) d_K_moveOn_60 (fun E _ _ _ _ hex => hex.elim) (fun rr MM H locs hp hW => ?_)
        obtain ⟨rfl, rfl⟩ := hp
        refine lv_goto (tgt := 85) hx hb d_K_moveOn_63 (by decide) ?_
        obtain rfl := Option.some.inj hf
        exact rd_vret C9 hlk hret hW ⟨rfl, rfl⟩ (by decide) (by decide) d_K_moveOn_85
  · have hf := rd_t hf c2
    refine lv_aload_n hx hb d_K_moveOn_14 rfl (lv_at hl 0 rfl) ?_
    refine gf_D_expiry C9 hW (rd_lt g1) l_K_120 d_K_moveOn_15 ?_
    refine lv_aload_n hx hb d_K_moveOn_18 rfl (lv_at hl 1 rfl) ?_
    refine gf_K_today C9 hW l_K_34 d_K_moveOn_19 ?_
    refine lv_icmp_ge (tgt := 85) hx hb d_K_moveOn_22 (by decide) (fun c9 => ?_) (fun c9 => ?_)
    · have hf := rd_t hf c9
      obtain rfl := Option.some.inj hf
      exact rd_vret C9 hlk hret hW ⟨rfl, rfl⟩ (by decide) (by decide) d_K_moveOn_85
    · have hf := rd_f hf c9
      refine lv_aload_n hx hb d_K_moveOn_25 rfl (lv_at hl 1 rfl) ?_
      refine lv_aload_n hx hb d_K_moveOn_26 rfl (lv_at hl 0 rfl) ?_
      obtain ⟨r10, qr10, hf⟩ := rd_bind hf
      refine rd_callV (As := [.ref (ad (37 + 8 * p1.toNatClampNeg))]) (rest := []) rd_gd C9 hTh hW (c_K_renewByItself hls p1.toNatClampNeg (rd_lt g1) qr10) kc_K_renewByItself ki_K_renewByItself ks_K_renewByItself l_K_334 rfl (lt_K) (ce_K) rfl ⟨Nat.le_of_ble_eq_true rfl, Nat.le_of_ble_eq_true rfl⟩ ⟨Nat.le_of_ble_eq_true rfl, Nat.le_of_ble_eq_true rfl⟩ hl.1 rfl (Nat.le_of_ble_eq_true rfl) d_K_moveOn_27 (fun E _ _ _ _ hex => hex.elim) (fun rr MM H locs hp hW => ?_)
      obtain ⟨rfl, rfl⟩ := hp
      refine lv_goto (tgt := 85) hx hb d_K_moveOn_30 (by decide) ?_
      obtain rfl := Option.some.inj hf
      exact rd_vret C9 hlk hret hW ⟨rfl, rfl⟩ (by decide) (by decide) d_K_moveOn_85
def lb_K_passDay_12  (Kf : Int32 → rd_M → Option (rd_M)) (rec : Int32 → rd_M → Option (rd_M)) (v12_1 : Int32) (v12_M : rd_M) : Option (rd_M) :=
  if 10 ≤ v12_1 then
    Kf v12_1 v12_M
  else
    if rd_in v12_1 10 then
    if ((v12_M (37 + 8 * v12_1.toNatClampNeg)).1 3) = 0 then
      rec (v12_1 + 1) v12_M
    else
      (f_K_settleTransfer v12_M v12_1).bind fun r5 =>
      (f_K_moveOn r5 v12_1).bind fun r6 =>
      rec (v12_1 + 1) r6
    else none
def f_K_passDay (M : rd_M) : Option (rd_M) :=
  rd_k (rd_iU M 0 4 (((M 0).1 4) + 1)) fun M1 =>
  rd_it (fun _ _ => none) (lb_K_passDay_12  (fun w12_1 w12_M =>
    some w12_M)) 64 0 M1
set_option maxRecDepth 100000 in
set_option maxHeartbeats 4000000 in
theorem c_K_passDay {l : Launch} (hls : l.stackTraces = false) {D : va_G} {Ka : Nat → ClassId} {ad : Nat → Nat} {M : rd_M}   {o : rd_M} (hf : f_K_passDay M = some o) :
    rd_Met l y_K_passDay b_K_passDay 2 none (5, 115, 0, 0) rd_T rd_ss D rd_cl (rd_ty Ka) (dk_L Ka) ad M [.ref (ad 0)] (fun r M1 => r = none ∧ o = M1) (fun _ => False) := by
  refine rd_body (by decide) (Nat.le_of_ble_eq_true rfl) ?_
  intro p e s m below meth c C9 hlk hret hnt hTh hW ls hl
  have hx := C9.1.1
  have hb := C9.1.2.1
  have hl : lv_has ls 2 [(0, .ref (ad 0))] := hl
  unfold f_K_passDay at hf
  refine lv_aload_n hx hb d_K_passDay_0 rfl (lv_at hl 0 rfl) ?_
  refine lv_dup hx hb d_K_passDay_1 rfl ?_
  refine gf_K_today C9 hW l_K_34 d_K_passDay_2 ?_
  refine lv_iconst (v := 1) hx hb d_K_passDay_5 (by decide) ?_
  refine lv_iadd hx hb d_K_passDay_6 ?_
  refine pf_K_today C9 hW l_K_34 d_K_passDay_7 (fun H locs hW => ?_)
  obtain ⟨M1, hM1, hf⟩ := rd_k_el hf
  rw [← hM1] at hW
  refine lv_iconst (v := 0) hx hb d_K_passDay_10 (by decide) ?_
  refine lv_istore_n (lv' := [(1, .int 0), (0, .ref (ad 0))]) hx hb d_K_passDay_11 rfl hl (by decide) rfl (fun ls hl => ?_)
  have loop_12 : ∀ (Kf : Int32 → rd_M → Option (rd_M)) (hk_12 : ∀ (w12_1 : Int32) (w12_M : rd_M) (H : Heap) (locs : List Loc) (ls : Array Slot), Kf w12_1 w12_M = some o → rd_W D rd_cl (dk_L Ka) ad (rd_A (dk_L Ka) ad s.heap.size) s.heap w12_M H locs → lv_has ls 2 [(1, .int w12_1), (0, .ref (ad 0))] → W p l e { frames := 5, cells := 0, slots := 0, locals := 115 } s m [.ref (ad 0)].toArray below meth c H locs 0 0 (rd_Z below (rd_O D rd_cl (dk_L Ka) ad M (rd_A (dk_L Ka) ad s.heap.size) 0 0 (fun r M1 => r = none ∧ o = M1) (fun _ => False)) s) (F0 m 46 ls [])) (fu : Nat) (v12_1 : Int32) (v12_M : rd_M) (H : Heap) (locs : List Loc) (ls : Array Slot), rd_it (fun _ _ => none) (lb_K_passDay_12  Kf) fu v12_1 v12_M = some o → rd_W D rd_cl (dk_L Ka) ad (rd_A (dk_L Ka) ad s.heap.size) s.heap v12_M H locs → lv_has ls 2 [(1, .int v12_1), (0, .ref (ad 0))] → W p l e { frames := 5, cells := 0, slots := 0, locals := 115 } s m [.ref (ad 0)].toArray below meth c H locs 0 0 (rd_Z below (rd_O D rd_cl (dk_L Ka) ad M (rd_A (dk_L Ka) ad s.heap.size) 0 0 (fun r M1 => r = none ∧ o = M1) (fun _ => False)) s) (F0 m 12 ls []) := by
    intro Kf hk_12 fu
    induction fu with
    | zero => intro _ _ H locs ls hf; exact (rd_nf hf).elim
    | succ fu ih_12 =>
      intro v12_1 v12_M H locs ls hf hW hl
      rw [rd_it_s] at hf
      unfold lb_K_passDay_12 at hf
      refine lv_iload_n hx hb d_K_passDay_12 rfl (lv_at hl 0 rfl) ?_
      refine lv_bipush (v := 10) hx hb d_K_passDay_13 (by decide) ?_
      refine lv_icmp_ge (tgt := 46) hx hb d_K_passDay_15 (by decide) (fun c7 => ?_) (fun c7 => ?_)
      · have hf := rd_t hf c7
        exact hk_12 _ _ _ _ _ hf hW (lv_sub hl [0, 1] rfl)
      · have hf := rd_f hf c7
        refine lv_aload_n hx hb d_K_passDay_18 rfl (lv_at hl 1 rfl) ?_
        refine gf_K_domains C9 hW l_K_29 d_K_passDay_19 ?_
        refine lv_iload_n hx hb d_K_passDay_22 rfl (lv_at hl 0 rfl) ?_
        obtain ⟨g8, hf⟩ := rd_g hf
        refine al_domains C9 hW rfl g8 d_K_passDay_23 ?_
        refine gf_D_there C9 hW (rd_lt g8) l_K_105 d_K_passDay_24 ?_
        refine lv_if_eq (tgt := 40) hx hb d_K_passDay_27 (by decide) (fun c9 => ?_) (fun c9 => ?_)
        · have hf := rd_t hf c9
          refine lv_iinc (v := v12_1 + 1) (lv' := [(1, .int (v12_1 + 1)), (0, .ref (ad 0))]) hx hb d_K_passDay_40 hl (k := 0) rfl rfl (by decide) rfl (fun ls hl => ?_)
          refine lv_goto (tgt := 12) hx hb d_K_passDay_43 (by decide) ?_
          exact ih_12 _ _ _ _ _ hf hW (lv_sub hl [0, 1] rfl)
        · have hf := rd_f hf c9
          refine lv_aload_n hx hb d_K_passDay_30 rfl (lv_at hl 1 rfl) ?_
          refine lv_iload_n hx hb d_K_passDay_31 rfl (lv_at hl 0 rfl) ?_
          obtain ⟨r10, qr10, hf⟩ := rd_bind hf
          refine rd_callV (As := [.int v12_1]) (rest := []) rd_gd C9 hTh hW (c_K_settleTransfer hls v12_1 qr10) kc_K_settleTransfer ki_K_settleTransfer ks_K_settleTransfer l_K_328 rfl (lt_K) (ce_K) rfl ⟨Nat.le_of_ble_eq_true rfl, Nat.le_of_ble_eq_true rfl⟩ ⟨Nat.le_of_ble_eq_true rfl, Nat.le_of_ble_eq_true rfl⟩ hl.1 rfl (Nat.le_of_ble_eq_true rfl) d_K_passDay_32 (fun E _ _ _ _ hex => hex.elim) (fun rr MM H locs hp hW => ?_)
          obtain ⟨rfl, rfl⟩ := hp
          refine lv_aload_n hx hb d_K_passDay_35 rfl (lv_at hl 1 rfl) ?_
          refine lv_iload_n hx hb d_K_passDay_36 rfl (lv_at hl 0 rfl) ?_
          obtain ⟨r11, qr11, hf⟩ := rd_bind hf
          refine rd_callV (As := [.int v12_1]) (rest := []) rd_gd C9 hTh hW (c_K_moveOn hls v12_1 qr11) kc_K_moveOn ki_K_moveOn ks_K_moveOn l_K_331 rfl (lt_K) (ce_K) rfl ⟨Nat.le_of_ble_eq_true rfl, Nat.le_of_ble_eq_true rfl⟩ ⟨Nat.le_of_ble_eq_true rfl, Nat.le_of_ble_eq_true rfl⟩ hl.1 rfl (Nat.le_of_ble_eq_true rfl) d_K_passDay_37 (fun E _ _ _ _ hex => hex.elim) (fun rr MM H locs hp hW => ?_)
          obtain ⟨rfl, rfl⟩ := hp
          refine lv_iinc (v := v12_1 + 1) (lv' := [(1, .int (v12_1 + 1)), (0, .ref (ad 0))]) hx hb d_K_passDay_40 hl (k := 0) rfl rfl (by decide) rfl (fun ls hl => ?_)
          refine lv_goto (tgt := 12) hx hb d_K_passDay_43 (by decide) ?_
          exact ih_12 _ _ _ _ _ hf hW (lv_sub hl [0, 1] rfl)
  refine loop_12 _ ?_ 64 _ _ _ _ _ hf hW (lv_sub hl [0, 1] rfl)
  intro w12_1 w12_M H locs ls hf hW hl
  obtain rfl := Option.some.inj hf
  exact rd_vret C9 hlk hret hW ⟨rfl, rfl⟩ (by decide) (by decide) d_K_passDay_46
def lb_K_pass_9 (q1 : Int32) (Kf : Int32 → rd_M → Option (String ⊕ (Int32 × rd_M))) (rec : Int32 → rd_M → Option (String ⊕ (Int32 × rd_M))) (v9_2 : Int32) (v9_M : rd_M) : Option (String ⊕ (Int32 × rd_M)) :=
  if q1 ≤ v9_2 then
    Kf v9_2 v9_M
  else
    (f_K_passDay v9_M).bind fun r3 =>
    rec (v9_2 + 1) r3
def f_K_pass (M : rd_M) (p1 : Int32) : Option (String ⊕ (Int32 × rd_M)) :=
  rd_b (f_K_requireRange M p1 1 20) fun r1 =>
  rd_it (fun _ _ => none) (lb_K_pass_9 p1 (fun w9_2 w9_M =>
    some (.inr ((w9_M 0).1 4, w9_M)))) 64 0 M
set_option maxRecDepth 100000 in
set_option maxHeartbeats 4000000 in
theorem c_K_pass {l : Launch} (hls : l.stackTraces = false) {D : va_G} {Ka : Nat → ClassId} {ad : Nat → Nat} {M : rd_M} (p1 : Int32)  {o : String ⊕ (Int32 × rd_M)} (hf : f_K_pass M p1 = some o) :
    rd_Met l y_K_pass b_K_pass 3 (some .int) (7, 136, 1, 6) rd_T rd_ss D rd_cl (rd_ty Ka) (dk_L Ka) ad M [.ref (ad 0), .int p1] (fun r M1 => ∃ v, o = .inr v ∧ r = some (.int v.1) ∧ v.2 = M1) (fun E => o = .inl E) := by
  refine rd_body (by decide) (Nat.le_of_ble_eq_true rfl) ?_
  intro p e s m below meth c C9 hlk hret hnt hTh hW ls hl
  have hx := C9.1.1
  have hb := C9.1.2.1
  have hl : lv_has ls 3 [(0, .ref (ad 0)), (1, .int p1)] := hl
  unfold f_K_pass at hf
  refine lv_iload_n hx hb d_K_pass_0 rfl (lv_at hl 1 rfl) ?_
  refine lv_iconst (v := 1) hx hb d_K_pass_1 (by decide) ?_
  refine lv_bipush (v := 20) hx hb d_K_pass_2 (by decide) ?_
  obtain ⟨or1, qr1, xr1, vr1⟩ := rd_b_run hf
  refine rd_callS (As := [.int p1, .int 1, .int 20]) (rest := []) rd_gd C9 hTh hW (c_K_requireRange hls p1 1 20 qr1) kc_K_requireRange ki_K_requireRange l_K_38 rfl ⟨Nat.le_of_ble_eq_true rfl, Nat.le_of_ble_eq_true rfl⟩ ⟨Nat.le_of_ble_eq_true rfl, Nat.le_of_ble_eq_true rfl⟩ hl.1 rfl (Nat.le_of_ble_eq_true rfl) d_K_pass_4 (fun E ce q9 H locs hex hW h1 h2 h3 => rd_out hnt hlk hW (xr1 E hex) h1 h2 h3 (by decide) (by decide)) (fun rr MM H locs hp hW => ?_)
  obtain ⟨r1, er1, rfl, rfl⟩ := hp
  have hf := vr1 _ er1
  refine lv_iconst (v := 0) hx hb d_K_pass_7 (by decide) ?_
  refine lv_istore_n (lv' := [(2, .int 0), (0, .ref (ad 0)), (1, .int p1)]) hx hb d_K_pass_8 rfl hl (by decide) rfl (fun ls hl => ?_)
  have loop_9 : ∀ (Kf : Int32 → rd_M → Option (String ⊕ (Int32 × rd_M))) (hk_9 : ∀ (w9_2 : Int32) (w9_M : rd_M) (H : Heap) (locs : List Loc) (ls : Array Slot), Kf w9_2 w9_M = some o → rd_W D rd_cl (dk_L Ka) ad (rd_A (dk_L Ka) ad s.heap.size) s.heap w9_M H locs → lv_has ls 3 [(2, .int w9_2), (0, .ref (ad 0)), (1, .int p1)] → W p l e { frames := 7, cells := 1, slots := 6, locals := 136 } s m [.ref (ad 0), .int p1].toArray below meth c H locs 1 6 (rd_Z below (rd_O D rd_cl (dk_L Ka) ad M (rd_A (dk_L Ka) ad s.heap.size) 1 6 (fun r M1 => ∃ v, o = .inr v ∧ r = some (.int v.1) ∧ v.2 = M1) (fun E => o = .inl E)) s) (F0 m 24 ls [])) (fu : Nat) (v9_2 : Int32) (v9_M : rd_M) (H : Heap) (locs : List Loc) (ls : Array Slot), rd_it (fun _ _ => none) (lb_K_pass_9 p1 Kf) fu v9_2 v9_M = some o → rd_W D rd_cl (dk_L Ka) ad (rd_A (dk_L Ka) ad s.heap.size) s.heap v9_M H locs → lv_has ls 3 [(2, .int v9_2), (0, .ref (ad 0)), (1, .int p1)] → W p l e { frames := 7, cells := 1, slots := 6, locals := 136 } s m [.ref (ad 0), .int p1].toArray below meth c H locs 1 6 (rd_Z below (rd_O D rd_cl (dk_L Ka) ad M (rd_A (dk_L Ka) ad s.heap.size) 1 6 (fun r M1 => ∃ v, o = .inr v ∧ r = some (.int v.1) ∧ v.2 = M1) (fun E => o = .inl E)) s) (F0 m 9 ls []) := by
    intro Kf hk_9 fu
    induction fu with
    | zero => intro _ _ H locs ls hf; exact (rd_nf hf).elim
    | succ fu ih_9 =>
      intro v9_2 v9_M H locs ls hf hW hl
      rw [rd_it_s] at hf
      unfold lb_K_pass_9 at hf
      refine lv_iload_n hx hb d_K_pass_9 rfl (lv_at hl 0 rfl) ?_
      refine lv_iload_n hx hb d_K_pass_10 rfl (lv_at hl 2 rfl) ?_
      refine lv_icmp_ge (tgt := 24) hx hb d_K_pass_11 (by decide) (fun c4 => ?_) (fun c4 => ?_)
      · have hf := rd_t hf c4
        exact hk_9 _ _ _ _ _ hf hW (lv_sub hl [0, 1, 2] rfl)
      · have hf := rd_f hf c4
        refine lv_aload_n hx hb d_K_pass_14 rfl (lv_at hl 1 rfl) ?_
        obtain ⟨r5, qr5, hf⟩ := rd_bind hf
        refine rd_callV (As := []) (rest := []) rd_gd C9 hTh hW (c_K_passDay hls qr5) kc_K_passDay ki_K_passDay ks_K_passDay l_K_222 rfl (lt_K) (ce_K) rfl ⟨Nat.le_of_ble_eq_true rfl, Nat.le_of_ble_eq_true rfl⟩ ⟨Nat.le_of_ble_eq_true rfl, Nat.le_of_ble_eq_true rfl⟩ hl.1 rfl (Nat.le_of_ble_eq_true rfl) d_K_pass_15 (fun E _ _ _ _ hex => hex.elim) (fun rr MM H locs hp hW => ?_)
        obtain ⟨rfl, rfl⟩ := hp
        refine lv_iinc (v := v9_2 + 1) (lv' := [(2, .int (v9_2 + 1)), (0, .ref (ad 0)), (1, .int p1)]) hx hb d_K_pass_18 hl (k := 0) rfl rfl (by decide) rfl (fun ls hl => ?_)
        refine lv_goto (tgt := 9) hx hb d_K_pass_21 (by decide) ?_
        exact ih_9 _ _ _ _ _ hf hW (lv_sub hl [0, 1, 2] rfl)
  refine loop_9 _ ?_ 64 _ _ _ _ _ hf hW (lv_sub hl [0, 1, 2] rfl)
  intro w9_2 w9_M H locs ls hf hW hl
  refine lv_aload_n hx hb d_K_pass_24 rfl (lv_at hl 1 rfl) ?_
  refine gf_K_today C9 hW l_K_34 d_K_pass_25 ?_
  obtain rfl := Option.some.inj hf
  exact rd_iret C9 hlk hret hW ⟨_, rfl, rfl, rfl⟩ (by decide) (by decide) d_K_pass_28
def f_K_requireMessage (M : rd_M) (r0_0 : Nat) : Option (String ⊕ Unit) :=
  if ((M (3 + 3 * r0_0)).1 3) = 0 then
    some (.inl "java/util/NoSuchElementException")
  else
    some (.inr ())
set_option maxRecDepth 100000 in
set_option maxHeartbeats 4000000 in
theorem c_K_requireMessage {l : Launch} (hls : l.stackTraces = false) {D : va_G} {Ka : Nat → ClassId} {ad : Nat → Nat} {M : rd_M} (r0_0 : Nat) (h0_0 : r0_0 < 4) {o : String ⊕ Unit} (hf : f_K_requireMessage M r0_0 = some o) :
    rd_Met l y_K_requireMessage b_K_requireMessage 1 none (6, 90, 1, 6) rd_T rd_ss D rd_cl (rd_ty Ka) (dk_L Ka) ad M [.ref (ad (3 + 3 * r0_0))] (fun r M1 => ∃ v, o = .inr v ∧ r = none ∧ M = M1) (fun E => o = .inl E) := by
  refine rd_body (by decide) (Nat.le_of_ble_eq_true rfl) ?_
  intro p e s m below meth c C9 hlk hret hnt hTh hW ls hl
  have hx := C9.1.1
  have hb := C9.1.2.1
  have hl : lv_has ls 1 [(0, .ref (ad (3 + 3 * r0_0)))] := hl
  unfold f_K_requireMessage at hf
  refine lv_aload_n hx hb d_K_requireMessage_0 rfl (lv_at hl 0 rfl) ?_
  refine gf_A_messageCount C9 hW h0_0 l_K_236 d_K_requireMessage_1 ?_
  refine lv_if_ne (tgt := 18) hx hb d_K_requireMessage_4 (by decide) (fun c1 => ?_) (fun c1 => ?_)
  · have hf := rd_f hf c1
    obtain rfl := Option.some.inj hf
    exact rd_vret C9 hlk hret hW ⟨_, rfl, rfl, rfl⟩ (by decide) (by decide) d_K_requireMessage_18
  · have hf := rd_t hf c1
    obtain rfl := Option.some.inj hf
    exact rd_throwXW (text := "there is no message") (Y1 := "java/lang/RuntimeException") (names := ["java/lang/Exception"]) hls C9 hnt hlk hTh hW hl.1 dn_0 dn_1 dn_2 dn_5 (by decide) rd_gd (by decide) (by decide) l_K_202 in_NoSuchElementException (List.mem_of_getElem? (i := 20) rfl) ta_K_NoSuchElementException d_K_requireMessage_7 d_K_requireMessage_10 d_K_requireMessage_11 d_K_requireMessage_14 d_K_requireMessage_17 (Nat.le_of_ble_eq_true rfl) (Nat.le_of_ble_eq_true rfl) (Nat.le_of_ble_eq_true rfl) (Nat.le_of_ble_eq_true rfl) rfl (Nat.le_of_ble_eq_true rfl) (Nat.le_of_ble_eq_true rfl)
def f_K_message (M : rd_M) (p1 : Int32) : Option (String ⊕ Int32) :=
  rd_b (f_K_requireRegistrar M p1) fun r1 =>
  if rd_in p1 4 then
  rd_b (f_K_requireMessage M p1.toNatClampNeg) fun r3 =>
  if rd_in p1 4 then
  some (.inr ((M (5 + 3 * p1.toNatClampNeg)).1 0))
  else none
  else none
set_option maxRecDepth 100000 in
set_option maxHeartbeats 4000000 in
theorem c_K_message {l : Launch} (hls : l.stackTraces = false) {D : va_G} {Ka : Nat → ClassId} {ad : Nat → Nat} {M : rd_M} (p1 : Int32)  {o : String ⊕ Int32} (hf : f_K_message M p1 = some o) :
    rd_Met l y_K_message b_K_message 2 (some .int) (8, 132, 2, 12) rd_T rd_ss D rd_cl (rd_ty Ka) (dk_L Ka) ad M [.ref (ad 0), .int p1] (fun r M1 => ∃ v, o = .inr v ∧ r = some (.int v) ∧ M = M1) (fun E => o = .inl E) := by
  refine rd_body (by decide) (Nat.le_of_ble_eq_true rfl) ?_
  intro p e s m below meth c C9 hlk hret hnt hTh hW ls hl
  have hx := C9.1.1
  have hb := C9.1.2.1
  have hl : lv_has ls 2 [(0, .ref (ad 0)), (1, .int p1)] := hl
  unfold f_K_message at hf
  refine lv_iload_n hx hb d_K_message_0 rfl (lv_at hl 1 rfl) ?_
  obtain ⟨or1, qr1, xr1, vr1⟩ := rd_b_run hf
  refine rd_callS (As := [.int p1]) (rest := []) rd_gd C9 hTh hW (c_K_requireRegistrar hls p1 qr1) kc_K_requireRegistrar ki_K_requireRegistrar l_K_46 rfl ⟨Nat.le_of_ble_eq_true rfl, Nat.le_of_ble_eq_true rfl⟩ ⟨Nat.le_of_ble_eq_true rfl, Nat.le_of_ble_eq_true rfl⟩ hl.1 rfl (Nat.le_of_ble_eq_true rfl) d_K_message_1 (fun E ce q9 H locs hex hW h1 h2 h3 => rd_out hnt hlk hW (xr1 E hex) h1 h2 h3 (by decide) (by decide)) (fun rr MM H locs hp hW => ?_)
  obtain ⟨r1, er1, rfl, rfl⟩ := hp
  have hf := vr1 _ er1
  refine lv_aload_n hx hb d_K_message_4 rfl (lv_at hl 0 rfl) ?_
  refine gf_K_accounts C9 hW l_K_15 d_K_message_5 ?_
  refine lv_iload_n hx hb d_K_message_8 rfl (lv_at hl 1 rfl) ?_
  obtain ⟨g2, hf⟩ := rd_g hf
  refine al_accounts C9 hW rfl g2 d_K_message_9 ?_
  obtain ⟨or3, qr3, xr3, vr3⟩ := rd_b_run hf
  refine rd_callS (As := [.ref (ad (3 + 3 * p1.toNatClampNeg))]) (rest := []) rd_gd C9 hTh hW (c_K_requireMessage hls p1.toNatClampNeg (rd_lt g2) qr3) kc_K_requireMessage ki_K_requireMessage l_K_225 rfl ⟨Nat.le_of_ble_eq_true rfl, Nat.le_of_ble_eq_true rfl⟩ ⟨Nat.le_of_ble_eq_true rfl, Nat.le_of_ble_eq_true rfl⟩ hl.1 rfl (Nat.le_of_ble_eq_true rfl) d_K_message_10 (fun E ce q9 H locs hex hW h1 h2 h3 => rd_out hnt hlk hW (xr3 E hex) h1 h2 h3 (by decide) (by decide)) (fun rr MM H locs hp hW => ?_)
  obtain ⟨r3, er3, rfl, rfl⟩ := hp
  have hf := vr3 _ er3
  refine lv_aload_n hx hb d_K_message_13 rfl (lv_at hl 0 rfl) ?_
  refine gf_K_accounts C9 hW l_K_15 d_K_message_14 ?_
  refine lv_iload_n hx hb d_K_message_17 rfl (lv_at hl 1 rfl) ?_
  obtain ⟨g4, hf⟩ := rd_g hf
  refine al_accounts C9 hW rfl g4 d_K_message_18 ?_
  refine gf_A_messages C9 hW (rd_lt g4) l_K_229 d_K_message_19 ?_
  refine lv_iconst (v := 0) hx hb d_K_message_22 (by decide) ?_
  refine al_messages C9 hW (rd_lt g4) (i := 0) (by decide) (show rd_in 0 12 by decide) d_K_message_23 ?_
  obtain rfl := Option.some.inj hf
  exact rd_iret C9 hlk hret hW ⟨_, rfl, rfl, rfl⟩ (by decide) (by decide) d_K_message_24
def f_K_acknowledge (M : rd_M) (p1 : Int32) : Option (String ⊕ (Int32 × rd_M)) :=
  rd_b (f_K_requireRegistrar M p1) fun r1 =>
  if rd_in p1 4 then
  rd_b (f_K_requireMessage M p1.toNatClampNeg) fun r3 =>
  if rd_in p1 4 then
  (f_A_dropOldest M p1.toNatClampNeg).bind fun r5 =>
  if rd_in p1 4 then
  some (.inr ((r5 (3 + 3 * p1.toNatClampNeg)).1 3, r5))
  else none
  else none
  else none
set_option maxRecDepth 100000 in
set_option maxHeartbeats 4000000 in
theorem c_K_acknowledge {l : Launch} (hls : l.stackTraces = false) {D : va_G} {Ka : Nat → ClassId} {ad : Nat → Nat} {M : rd_M} (p1 : Int32)  {o : String ⊕ (Int32 × rd_M)} (hf : f_K_acknowledge M p1 = some o) :
    rd_Met l y_K_acknowledge b_K_acknowledge 2 (some .int) (8, 132, 2, 12) rd_T rd_ss D rd_cl (rd_ty Ka) (dk_L Ka) ad M [.ref (ad 0), .int p1] (fun r M1 => ∃ v, o = .inr v ∧ r = some (.int v.1) ∧ v.2 = M1) (fun E => o = .inl E) := by
  refine rd_body (by decide) (Nat.le_of_ble_eq_true rfl) ?_
  intro p e s m below meth c C9 hlk hret hnt hTh hW ls hl
  have hx := C9.1.1
  have hb := C9.1.2.1
  have hl : lv_has ls 2 [(0, .ref (ad 0)), (1, .int p1)] := hl
  unfold f_K_acknowledge at hf
  refine lv_iload_n hx hb d_K_acknowledge_0 rfl (lv_at hl 1 rfl) ?_
  obtain ⟨or1, qr1, xr1, vr1⟩ := rd_b_run hf
  refine rd_callS (As := [.int p1]) (rest := []) rd_gd C9 hTh hW (c_K_requireRegistrar hls p1 qr1) kc_K_requireRegistrar ki_K_requireRegistrar l_K_46 rfl ⟨Nat.le_of_ble_eq_true rfl, Nat.le_of_ble_eq_true rfl⟩ ⟨Nat.le_of_ble_eq_true rfl, Nat.le_of_ble_eq_true rfl⟩ hl.1 rfl (Nat.le_of_ble_eq_true rfl) d_K_acknowledge_1 (fun E ce q9 H locs hex hW h1 h2 h3 => rd_out hnt hlk hW (xr1 E hex) h1 h2 h3 (by decide) (by decide)) (fun rr MM H locs hp hW => ?_)
  obtain ⟨r1, er1, rfl, rfl⟩ := hp
  have hf := vr1 _ er1
  refine lv_aload_n hx hb d_K_acknowledge_4 rfl (lv_at hl 0 rfl) ?_
  refine gf_K_accounts C9 hW l_K_15 d_K_acknowledge_5 ?_
  refine lv_iload_n hx hb d_K_acknowledge_8 rfl (lv_at hl 1 rfl) ?_
  obtain ⟨g2, hf⟩ := rd_g hf
  refine al_accounts C9 hW rfl g2 d_K_acknowledge_9 ?_
  obtain ⟨or3, qr3, xr3, vr3⟩ := rd_b_run hf
  refine rd_callS (As := [.ref (ad (3 + 3 * p1.toNatClampNeg))]) (rest := []) rd_gd C9 hTh hW (c_K_requireMessage hls p1.toNatClampNeg (rd_lt g2) qr3) kc_K_requireMessage ki_K_requireMessage l_K_225 rfl ⟨Nat.le_of_ble_eq_true rfl, Nat.le_of_ble_eq_true rfl⟩ ⟨Nat.le_of_ble_eq_true rfl, Nat.le_of_ble_eq_true rfl⟩ hl.1 rfl (Nat.le_of_ble_eq_true rfl) d_K_acknowledge_10 (fun E ce q9 H locs hex hW h1 h2 h3 => rd_out hnt hlk hW (xr3 E hex) h1 h2 h3 (by decide) (by decide)) (fun rr MM H locs hp hW => ?_)
  obtain ⟨r3, er3, rfl, rfl⟩ := hp
  have hf := vr3 _ er3
  refine lv_aload_n hx hb d_K_acknowledge_13 rfl (lv_at hl 0 rfl) ?_
  refine gf_K_accounts C9 hW l_K_15 d_K_acknowledge_14 ?_
  refine lv_iload_n hx hb d_K_acknowledge_17 rfl (lv_at hl 1 rfl) ?_
  obtain ⟨g4, hf⟩ := rd_g hf
  refine al_accounts C9 hW rfl g4 d_K_acknowledge_18 ?_
  obtain ⟨r5, qr5, hf⟩ := rd_bind hf
  refine rd_callV (As := []) (rest := []) rd_gd C9 hTh hW (c_A_dropOldest hls p1.toNatClampNeg (rd_lt g4) qr5) kc_A_dropOldest ki_A_dropOldest ks_A_dropOldest l_K_233 rfl (lt_A (rd_lt g4)) (ce_A (rd_lt g4)) rfl ⟨Nat.le_of_ble_eq_true rfl, Nat.le_of_ble_eq_true rfl⟩ ⟨Nat.le_of_ble_eq_true rfl, Nat.le_of_ble_eq_true rfl⟩ hl.1 rfl (Nat.le_of_ble_eq_true rfl) d_K_acknowledge_19 (fun E _ _ _ _ hex => hex.elim) (fun rr MM H locs hp hW => ?_)
  obtain ⟨rfl, rfl⟩ := hp
  refine lv_aload_n hx hb d_K_acknowledge_22 rfl (lv_at hl 0 rfl) ?_
  refine gf_K_accounts C9 hW l_K_15 d_K_acknowledge_23 ?_
  refine lv_iload_n hx hb d_K_acknowledge_26 rfl (lv_at hl 1 rfl) ?_
  obtain ⟨g6, hf⟩ := rd_g hf
  refine al_accounts C9 hW rfl g6 d_K_acknowledge_27 ?_
  refine gf_A_messageCount C9 hW (rd_lt g6) l_K_236 d_K_acknowledge_28 ?_
  obtain rfl := Option.some.inj hf
  exact rd_iret C9 hlk hret hW ⟨_, rfl, rfl, rfl⟩ (by decide) (by decide) d_K_acknowledge_31
def f_K_balance (M : rd_M) (p1 : Int32) : Option (String ⊕ UInt64) :=
  rd_b (f_K_requireRegistrar M p1) fun r1 =>
  if rd_in p1 4 then
  some (.inr ((M (3 + 3 * p1.toNatClampNeg)).2.2 2))
  else none
set_option maxRecDepth 100000 in
set_option maxHeartbeats 4000000 in
theorem c_K_balance {l : Launch} (hls : l.stackTraces = false) {D : va_G} {Ka : Nat → ClassId} {ad : Nat → Nat} {M : rd_M} (p1 : Int32)  {o : String ⊕ UInt64} (hf : f_K_balance M p1 = some o) :
    rd_Met l y_K_balance b_K_balance 2 (some .double) (8, 132, 1, 6) rd_T rd_ss D rd_cl (rd_ty Ka) (dk_L Ka) ad M [.ref (ad 0), .int p1] (fun r M1 => ∃ v, o = .inr v ∧ r = some (.double v) ∧ M = M1) (fun E => o = .inl E) := by
  refine rd_body (by decide) (Nat.le_of_ble_eq_true rfl) ?_
  intro p e s m below meth c C9 hlk hret hnt hTh hW ls hl
  have hx := C9.1.1
  have hb := C9.1.2.1
  have hl : lv_has ls 2 [(0, .ref (ad 0)), (1, .int p1)] := hl
  unfold f_K_balance at hf
  refine lv_iload_n hx hb d_K_balance_0 rfl (lv_at hl 1 rfl) ?_
  obtain ⟨or1, qr1, xr1, vr1⟩ := rd_b_run hf
  refine rd_callS (As := [.int p1]) (rest := []) rd_gd C9 hTh hW (c_K_requireRegistrar hls p1 qr1) kc_K_requireRegistrar ki_K_requireRegistrar l_K_46 rfl ⟨Nat.le_of_ble_eq_true rfl, Nat.le_of_ble_eq_true rfl⟩ ⟨Nat.le_of_ble_eq_true rfl, Nat.le_of_ble_eq_true rfl⟩ hl.1 rfl (Nat.le_of_ble_eq_true rfl) d_K_balance_1 (fun E ce q9 H locs hex hW h1 h2 h3 => rd_out hnt hlk hW (xr1 E hex) h1 h2 h3 (by decide) (by decide)) (fun rr MM H locs hp hW => ?_)
  obtain ⟨r1, er1, rfl, rfl⟩ := hp
  have hf := vr1 _ er1
  refine lv_aload_n hx hb d_K_balance_4 rfl (lv_at hl 0 rfl) ?_
  refine gf_K_accounts C9 hW l_K_15 d_K_balance_5 ?_
  refine lv_iload_n hx hb d_K_balance_8 rfl (lv_at hl 1 rfl) ?_
  obtain ⟨g2, hf⟩ := rd_g hf
  refine al_accounts C9 hW rfl g2 d_K_balance_9 ?_
  refine gf_A_balance C9 hW (rd_lt g2) l_K_53 d_K_balance_10 ?_
  obtain rfl := Option.some.inj hf
  exact rd_dret C9 hlk hret hW ⟨_, rfl, rfl, rfl⟩ (by decide) (by decide) d_K_balance_13
def f_K_paid (M : rd_M) (p1 : Int32) (p2 : Int32) : Option (String ⊕ UInt64) :=
  rd_b (f_K_requireRegistrar M p1) fun r1 =>
  rd_b (f_K_requireRange M p2 0 3) fun r2 =>
  if rd_in p1 4 then
  if rd_in p2 4 then
  some (.inr ((M (4 + 3 * p1.toNatClampNeg)).2.2 p2.toNatClampNeg))
  else none
  else none
set_option maxRecDepth 100000 in
set_option maxHeartbeats 4000000 in
theorem c_K_paid {l : Launch} (hls : l.stackTraces = false) {D : va_G} {Ka : Nat → ClassId} {ad : Nat → Nat} {M : rd_M} (p1 : Int32) (p2 : Int32)  {o : String ⊕ UInt64} (hf : f_K_paid M p1 p2 = some o) :
    rd_Met l y_K_paid b_K_paid 3 (some .double) (8, 132, 2, 12) rd_T rd_ss D rd_cl (rd_ty Ka) (dk_L Ka) ad M [.ref (ad 0), .int p1, .int p2] (fun r M1 => ∃ v, o = .inr v ∧ r = some (.double v) ∧ M = M1) (fun E => o = .inl E) := by
  refine rd_body (by decide) (Nat.le_of_ble_eq_true rfl) ?_
  intro p e s m below meth c C9 hlk hret hnt hTh hW ls hl
  have hx := C9.1.1
  have hb := C9.1.2.1
  have hl : lv_has ls 3 [(0, .ref (ad 0)), (1, .int p1), (2, .int p2)] := hl
  unfold f_K_paid at hf
  refine lv_iload_n hx hb d_K_paid_0 rfl (lv_at hl 1 rfl) ?_
  obtain ⟨or1, qr1, xr1, vr1⟩ := rd_b_run hf
  refine rd_callS (As := [.int p1]) (rest := []) rd_gd C9 hTh hW (c_K_requireRegistrar hls p1 qr1) kc_K_requireRegistrar ki_K_requireRegistrar l_K_46 rfl ⟨Nat.le_of_ble_eq_true rfl, Nat.le_of_ble_eq_true rfl⟩ ⟨Nat.le_of_ble_eq_true rfl, Nat.le_of_ble_eq_true rfl⟩ hl.1 rfl (Nat.le_of_ble_eq_true rfl) d_K_paid_1 (fun E ce q9 H locs hex hW h1 h2 h3 => rd_out hnt hlk hW (xr1 E hex) h1 h2 h3 (by decide) (by decide)) (fun rr MM H locs hp hW => ?_)
  obtain ⟨r1, er1, rfl, rfl⟩ := hp
  have hf := vr1 _ er1
  refine lv_iload_n hx hb d_K_paid_4 rfl (lv_at hl 2 rfl) ?_
  refine lv_iconst (v := 0) hx hb d_K_paid_5 (by decide) ?_
  refine lv_iconst (v := 3) hx hb d_K_paid_6 (by decide) ?_
  obtain ⟨or2, qr2, xr2, vr2⟩ := rd_b_run hf
  refine rd_callS (As := [.int p2, .int 0, .int 3]) (rest := []) rd_gd C9 hTh hW (c_K_requireRange hls p2 0 3 qr2) kc_K_requireRange ki_K_requireRange l_K_38 rfl ⟨Nat.le_of_ble_eq_true rfl, Nat.le_of_ble_eq_true rfl⟩ ⟨Nat.le_of_ble_eq_true rfl, Nat.le_of_ble_eq_true rfl⟩ hl.1 rfl (Nat.le_of_ble_eq_true rfl) d_K_paid_7 (fun E ce q9 H locs hex hW h1 h2 h3 => rd_out hnt hlk hW (xr2 E hex) h1 h2 h3 (by decide) (by decide)) (fun rr MM H locs hp hW => ?_)
  obtain ⟨r2, er2, rfl, rfl⟩ := hp
  have hf := vr2 _ er2
  refine lv_aload_n hx hb d_K_paid_10 rfl (lv_at hl 0 rfl) ?_
  refine gf_K_accounts C9 hW l_K_15 d_K_paid_11 ?_
  refine lv_iload_n hx hb d_K_paid_14 rfl (lv_at hl 1 rfl) ?_
  obtain ⟨g3, hf⟩ := rd_g hf
  refine al_accounts C9 hW rfl g3 d_K_paid_15 ?_
  refine gf_A_spent C9 hW (rd_lt g3) l_K_239 d_K_paid_16 ?_
  refine lv_iload_n hx hb d_K_paid_19 rfl (lv_at hl 2 rfl) ?_
  obtain ⟨g4, hf⟩ := rd_g hf
  refine al_spent C9 hW (rd_lt g3) rfl g4 d_K_paid_20 ?_
  obtain rfl := Option.some.inj hf
  exact rd_dret C9 hlk hret hW ⟨_, rfl, rfl, rfl⟩ (by decide) (by decide) d_K_paid_21
