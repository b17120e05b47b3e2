def f_K_remove (M : rd_M) (p1 : Int32) (p2 : Int32) (p3 : Int32) : Option (String ⊕ (Int32 × rd_M)) :=
  rd_b (f_K_requireRegistrar M p1) fun r1 =>
  rd_b (f_K_requireRange M p2 0 1) fun r2 =>
  rd_b (f_K_thingThere M p2 p3) fun r3 =>
  rd_b (f_K_requireOwner M ((M (18 + 10 * r3.1 + r3.2)).1 1) p1) fun r4 =>
  (f_K_usesOf M p2 p3).bind fun r5 =>
  if r5 ≤ 0 then
    rd_k (rd_iU M (18 + 10 * r3.1 + r3.2) 0 0) fun M7 =>
    if rd_in p2 2 then
    (f_S_howManyThere M7 p2.toNatClampNeg).bind fun r9 =>
    some (.inr (r9, M7))
    else none
  else
    some (.inl "java/lang/IllegalStateException")
set_option maxRecDepth 100000 in
set_option maxHeartbeats 4000000 in
theorem c_K_remove {l : Launch} (hls : l.stackTraces = false) {D : va_G} {Ka : Nat → ClassId} {ad : Nat → Nat} {M : rd_M} (p1 : Int32) (p2 : Int32) (p3 : Int32)  {o : String ⊕ (Int32 × rd_M)} (hf : f_K_remove M p1 p2 p3 = some o) :
    rd_Met l y_K_remove b_K_remove 5 (some .int) (8, 132, 5, 30) rd_T rd_ss D rd_cl (rd_ty Ka) (dk_L Ka) ad M [.ref (ad 0), .int p1, .int p2, .int p3] (fun r M1 => ∃ v, o = .inr v ∧ r = some (.int v.1) ∧ v.2 = M1) (fun E => o = .inl E) := by
  refine rd_body (by decide) (Nat.le_of_ble_eq_true rfl) ?_
  intro p e s m below meth c C9 hlk hret hnt hTh hW ls hl
  have hx := C9.1.1
  have hb := C9.1.2.1
  have hl : lv_has ls 5 [(0, .ref (ad 0)), (1, .int p1), (2, .int p2), (3, .int p3)] := hl
  unfold f_K_remove at hf
  refine lv_iload_n hx hb d_K_remove_0 rfl (lv_at hl 1 rfl) ?_
  obtain ⟨or1, qr1, xr1, vr1⟩ := rd_b_run hf
  refine rd_callS (As := [.int p1]) (rest := []) rd_gd C9 hTh hW (c_K_requireRegistrar hls p1 qr1) kc_K_requireRegistrar ki_K_requireRegistrar l_K_46 rfl ⟨Nat.le_of_ble_eq_true rfl, Nat.le_of_ble_eq_true rfl⟩ ⟨Nat.le_of_ble_eq_true rfl, Nat.le_of_ble_eq_true rfl⟩ hl.1 rfl (Nat.le_of_ble_eq_true rfl) d_K_remove_1 (fun E ce q9 H locs hex hW h1 h2 h3 => rd_out hnt hlk hW (xr1 E hex) h1 h2 h3 (by decide) (by decide)) (fun rr MM H locs hp hW => ?_)
  obtain ⟨r1, er1, rfl, rfl⟩ := hp
  have hf := vr1 _ er1
  refine lv_iload_n hx hb d_K_remove_4 rfl (lv_at hl 2 rfl) ?_
  refine lv_iconst (v := 0) hx hb d_K_remove_5 (by decide) ?_
  refine lv_iconst (v := 1) hx hb d_K_remove_6 (by decide) ?_
  obtain ⟨or2, qr2, xr2, vr2⟩ := rd_b_run hf
  refine rd_callS (As := [.int p2, .int 0, .int 1]) (rest := []) rd_gd C9 hTh hW (c_K_requireRange hls p2 0 1 qr2) kc_K_requireRange ki_K_requireRange l_K_38 rfl ⟨Nat.le_of_ble_eq_true rfl, Nat.le_of_ble_eq_true rfl⟩ ⟨Nat.le_of_ble_eq_true rfl, Nat.le_of_ble_eq_true rfl⟩ hl.1 rfl (Nat.le_of_ble_eq_true rfl) d_K_remove_7 (fun E ce q9 H locs hex hW h1 h2 h3 => rd_out hnt hlk hW (xr2 E hex) h1 h2 h3 (by decide) (by decide)) (fun rr MM H locs hp hW => ?_)
  obtain ⟨r2, er2, rfl, rfl⟩ := hp
  have hf := vr2 _ er2
  refine lv_aload_n hx hb d_K_remove_10 rfl (lv_at hl 0 rfl) ?_
  refine lv_iload_n hx hb d_K_remove_11 rfl (lv_at hl 2 rfl) ?_
  refine lv_iload_n hx hb d_K_remove_12 rfl (lv_at hl 3 rfl) ?_
  obtain ⟨or3, qr3, xr3, vr3⟩ := rd_b_run hf
  refine rd_callV (As := [.int p2, .int p3]) (rest := []) rd_gd C9 hTh hW (c_K_thingThere hls p2 p3 qr3) kc_K_thingThere ki_K_thingThere ks_K_thingThere l_K_76 rfl (lt_K) (ce_K) rfl ⟨Nat.le_of_ble_eq_true rfl, Nat.le_of_ble_eq_true rfl⟩ ⟨Nat.le_of_ble_eq_true rfl, Nat.le_of_ble_eq_true rfl⟩ hl.1 rfl (Nat.le_of_ble_eq_true rfl) d_K_remove_13 (fun E ce q9 H locs hex hW h1 h2 h3 => rd_out hnt hlk hW (xr3 E hex) h1 h2 h3 (by decide) (by decide)) (fun rr MM H locs hp hW => ?_)
  obtain ⟨r3, er3, rfl, rfl, br3_0, br3_1⟩ := hp
  have hf := vr3 _ er3
  refine lv_astore (lv' := [(4, .ref (ad (18 + 10 * r3.1 + r3.2))), (0, .ref (ad 0)), (1, .int p1), (2, .int p2), (3, .int p3)]) hx hb d_K_remove_16 hl (by decide) rfl (fun ls hl => ?_)
  refine lv_aload hx hb d_K_remove_18 (lv_at hl 0 rfl) ?_
  refine gf_T_owner C9 hW br3_0 br3_1 l_K_80 d_K_remove_20 ?_
  refine lv_iload_n hx hb d_K_remove_23 rfl (lv_at hl 2 rfl) ?_
  obtain ⟨or4, qr4, xr4, vr4⟩ := rd_b_run hf
  refine rd_callS (As := [.int ((M (18 + 10 * r3.1 + r3.2)).1 1), .int p1]) (rest := []) rd_gd C9 hTh hW (c_K_requireOwner hls ((M (18 + 10 * r3.1 + r3.2)).1 1) p1 qr4) kc_K_requireOwner ki_K_requireOwner l_K_72 rfl ⟨Nat.le_of_ble_eq_true rfl, Nat.le_of_ble_eq_true rfl⟩ ⟨Nat.le_of_ble_eq_true rfl, Nat.le_of_ble_eq_true rfl⟩ hl.1 rfl (Nat.le_of_ble_eq_true rfl) d_K_remove_24 (fun E ce q9 H locs hex hW h1 h2 h3 => rd_out hnt hlk hW (xr4 E hex) h1 h2 h3 (by decide) (by decide)) (fun rr MM H locs hp hW => ?_)
  obtain ⟨r4, er4, rfl, rfl⟩ := hp
  have hf := vr4 _ er4
  refine lv_aload_n hx hb d_K_remove_27 rfl (lv_at hl 1 rfl) ?_
  refine lv_iload_n hx hb d_K_remove_28 rfl (lv_at hl 3 rfl) ?_
  refine lv_iload_n hx hb d_K_remove_29 rfl (lv_at hl 4 rfl) ?_
  obtain ⟨r5, qr5, hf⟩ := rd_bind hf
  refine rd_callV (As := [.int p2, .int p3]) (rest := []) rd_gd C9 hTh hW (c_K_usesOf hls p2 p3 qr5) kc_K_usesOf ki_K_usesOf ks_K_usesOf l_K_83 rfl (lt_K) (ce_K) rfl ⟨Nat.le_of_ble_eq_true rfl, Nat.le_of_ble_eq_true rfl⟩ ⟨Nat.le_of_ble_eq_true rfl, Nat.le_of_ble_eq_true rfl⟩ hl.1 rfl (Nat.le_of_ble_eq_true rfl) d_K_remove_30 (fun E _ _ _ _ hex => hex.elim) (fun rr MM H locs hp hW => ?_)
  obtain ⟨rfl, rfl⟩ := hp
  refine lv_if_le (tgt := 46) hx hb d_K_remove_33 (by decide) (fun c6 => ?_) (fun c6 => ?_)
  · have hf := rd_t hf c6
    refine lv_aload hx hb d_K_remove_46 (lv_at hl 0 rfl) ?_
    refine lv_iconst (v := 0) hx hb d_K_remove_48 (by decide) ?_
    refine pf_T_there C9 hW br3_0 br3_1 (Or.inl rfl) l_K_94 d_K_remove_49 (fun H locs hW => ?_)
    obtain ⟨M7, hM7, hf⟩ := rd_k_el hf
    rw [← hM7] at hW
    refine lv_aload_n hx hb d_K_remove_52 rfl (lv_at hl 1 rfl) ?_
    refine gf_K_shelves C9 hW l_K_22 d_K_remove_53 ?_
    refine lv_iload_n hx hb d_K_remove_56 rfl (lv_at hl 3 rfl) ?_
    obtain ⟨g8, hf⟩ := rd_g hf
    refine al_shelves C9 hW rfl g8 d_K_remove_57 ?_
    obtain ⟨r9, qr9, hf⟩ := rd_bind hf
    refine rd_callV (As := []) (rest := []) rd_gd C9 hTh hW (c_S_howManyThere hls p2.toNatClampNeg (rd_lt g8) qr9) kc_S_howManyThere ki_S_howManyThere ks_S_howManyThere l_K_98 rfl (lt_S (rd_lt g8)) (ce_S (rd_lt g8)) rfl ⟨Nat.le_of_ble_eq_true rfl, Nat.le_of_ble_eq_true rfl⟩ ⟨Nat.le_of_ble_eq_true rfl, Nat.le_of_ble_eq_true rfl⟩ hl.1 rfl (Nat.le_of_ble_eq_true rfl) d_K_remove_58 (fun E _ _ _ _ hex => hex.elim) (fun rr MM H locs hp hW => ?_)
    obtain ⟨rfl, rfl⟩ := hp
    obtain rfl := Option.some.inj hf
    exact rd_iret C9 hlk hret hW ⟨_, rfl, rfl, rfl⟩ (by decide) (by decide) d_K_remove_61
  · have hf := rd_f hf c6
    obtain rfl := Option.some.inj hf
    exact rd_throw (text := "a domain uses it") (names := ["java/lang/RuntimeException", "java/lang/Exception"]) hls C9 hnt hlk hTh hW hl.1 rd_gd (by decide) (by decide) l_K_87 in_IllegalStateException (List.mem_of_getElem? (i := 7) rfl) ta_K_IllegalStateException d_K_remove_36 d_K_remove_39 d_K_remove_40 d_K_remove_42 d_K_remove_45 (Nat.le_of_ble_eq_true rfl) (Nat.le_of_ble_eq_true rfl) (Nat.le_of_ble_eq_true rfl) (Nat.le_of_ble_eq_true rfl) rfl (Nat.le_of_ble_eq_true rfl) (Nat.le_of_ble_eq_true rfl)
def f_K_requireName (M : rd_M) (p0 : Int32) : Option (String ⊕ Unit) :=
  rd_b (f_K_requireRange M p0 0 9) fun r1 =>
  some (.inr ())
set_option maxRecDepth 100000 in
set_option maxHeartbeats 4000000 in
theorem c_K_requireName {l : Launch} (hls : l.stackTraces = false) {D : va_G} {Ka : Nat → ClassId} {ad : Nat → Nat} {M : rd_M} (p0 : Int32)  {o : String ⊕ Unit} (hf : f_K_requireName M p0 = some o) :
    rd_Met l y_K_requireName b_K_requireName 1 none (7, 112, 1, 6) rd_T rd_ss D rd_cl (rd_ty Ka) (dk_L Ka) ad M [.int p0] (fun r M1 => ∃ v, o = .inr v ∧ r = none ∧ M = M1) (fun E => o = .inl E) := by
  refine rd_body (by decide) (Nat.le_of_ble_eq_true rfl) ?_
  intro p e s m below meth c C9 hlk hret hnt hTh hW ls hl
  have hx := C9.1.1
  have hb := C9.1.2.1
  have hl : lv_has ls 1 [(0, .int p0)] := hl
  unfold f_K_requireName at hf
  refine lv_iload_n hx hb d_K_requireName_0 rfl (lv_at hl 0 rfl) ?_
  refine lv_iconst (v := 0) hx hb d_K_requireName_1 (by decide) ?_
  refine lv_bipush (v := 9) hx hb d_K_requireName_2 (by decide) ?_
  obtain ⟨or1, qr1, xr1, vr1⟩ := rd_b_run hf
  refine rd_callS (As := [.int p0, .int 0, .int 9]) (rest := []) rd_gd C9 hTh hW (c_K_requireRange hls p0 0 9 qr1) kc_K_requireRange ki_K_requireRange l_K_38 rfl ⟨Nat.le_of_ble_eq_true rfl, Nat.le_of_ble_eq_true rfl⟩ ⟨Nat.le_of_ble_eq_true rfl, Nat.le_of_ble_eq_true rfl⟩ hl.1 rfl (Nat.le_of_ble_eq_true rfl) d_K_requireName_4 (fun E ce q9 H locs hex hW h1 h2 h3 => rd_out hnt hlk hW (xr1 E hex) h1 h2 h3 (by decide) (by decide)) (fun rr MM H locs hp hW => ?_)
  obtain ⟨r1, er1, rfl, rfl⟩ := hp
  have hf := vr1 _ er1
  obtain rfl := Option.some.inj hf
  exact rd_vret C9 hlk hret hW ⟨_, rfl, rfl, rfl⟩ (by decide) (by decide) d_K_requireName_7
def f_K_costOf (M : rd_M) (p1 : Int32) (p2 : Int32) (p3 : Int32) : Option (UInt64) :=
  if rd_in p2 4 then
  if rd_nn (FP.dmul ((M 1).2.2 p2.toNatClampNeg) (FP.i2d p3)) then
  if rd_in p1 4 then
  if (Op.cmpValue (FP.dcmp ((M (3 + 3 * p1.toNatClampNeg)).2.2 2) 4636737291354636288) .l) < 0 then
    some (FP.dmul ((M 1).2.2 p2.toNatClampNeg) (FP.i2d p3))
  else
    if rd_nn (FP.dmul (FP.dmul ((M 1).2.2 p2.toNatClampNeg) (FP.i2d p3)) 4606056518893174784) then
    some (FP.dmul (FP.dmul ((M 1).2.2 p2.toNatClampNeg) (FP.i2d p3)) 4606056518893174784)
    else none
  else none
  else none
  else none
set_option maxRecDepth 100000 in
set_option maxHeartbeats 4000000 in
theorem c_K_costOf {l : Launch} (hls : l.stackTraces = false) {D : va_G} {Ka : Nat → ClassId} {ad : Nat → Nat} {M : rd_M} (p1 : Int32) (p2 : Int32) (p3 : Int32)  {o : UInt64} (hf : f_K_costOf M p1 p2 p3 = some o) :
    rd_Met l y_K_costOf b_K_costOf 6 (some .double) (0, 0, 0, 0) rd_T rd_ss D rd_cl (rd_ty Ka) (dk_L Ka) ad M [.ref (ad 0), .int p1, .int p2, .int p3] (fun r M1 => r = some (.double o) ∧ M = M1) (fun _ => False) := by
  refine rd_body (by decide) (Nat.le_of_ble_eq_true rfl) ?_
  intro p e s m below meth c C9 hlk hret hnt hTh hW ls hl
  have hx := C9.1.1
  have hb := C9.1.2.1
  have hl : lv_has ls 6 [(0, .ref (ad 0)), (1, .int p1), (2, .int p2), (3, .int p3)] := hl
  unfold f_K_costOf at hf
  refine lv_aload_n hx hb d_K_costOf_0 rfl (lv_at hl 0 rfl) ?_
  refine gf_K_prices C9 hW l_K_9 d_K_costOf_1 ?_
  refine lv_iload_n hx hb d_K_costOf_4 rfl (lv_at hl 2 rfl) ?_
  obtain ⟨g1, hf⟩ := rd_g hf
  refine al_prices C9 hW rfl g1 d_K_costOf_5 ?_
  refine lv_iload_n hx hb d_K_costOf_6 rfl (lv_at hl 3 rfl) ?_
  refine lv_i2d hx hb d_K_costOf_7 ?_
  obtain ⟨g_8, hf⟩ := rd_g hf
  refine lv_dmul hx hb d_K_costOf_8 g_8 ?_
  refine lv_dstore (lv' := [(4, .double (FP.dmul ((M 1).2.2 p2.toNatClampNeg) (FP.i2d p3))), (0, .ref (ad 0)), (1, .int p1), (2, .int p2), (3, .int p3)]) hx hb d_K_costOf_9 hl (by decide) rfl (fun ls hl => ?_)
  refine lv_aload_n hx hb d_K_costOf_11 rfl (lv_at hl 1 rfl) ?_
  refine gf_K_accounts C9 hW l_K_15 d_K_costOf_12 ?_
  refine lv_iload_n hx hb d_K_costOf_15 rfl (lv_at hl 2 rfl) ?_
  obtain ⟨g2, hf⟩ := rd_g hf
  refine al_accounts C9 hW rfl g2 d_K_costOf_16 ?_
  refine gf_A_balance C9 hW (rd_lt g2) l_K_53 d_K_costOf_17 ?_
  refine rd_ldcD C9 l_K_318 d_K_costOf_20 ?_
  refine lv_dcmp hx hb d_K_costOf_23 ?_
  refine lv_if_lt (tgt := 36) hx hb d_K_costOf_24 (by decide) (fun c3 => ?_) (fun c3 => ?_)
  · have hf := rd_t hf c3
    refine lv_dload hx hb d_K_costOf_36 (lv_at hl 0 rfl) ?_
    obtain rfl := Option.some.inj hf
    exact rd_dret C9 hlk hret hW ⟨rfl, rfl⟩ (by decide) (by decide) d_K_costOf_38
  · have hf := rd_f hf c3
    refine lv_dload hx hb d_K_costOf_27 (lv_at hl 0 rfl) ?_
    refine rd_ldcD C9 l_K_320 d_K_costOf_29 ?_
    obtain ⟨g_32, hf⟩ := rd_g hf
    refine lv_dmul hx hb d_K_costOf_32 g_32 ?_
    refine lv_goto (tgt := 38) hx hb d_K_costOf_33 (by decide) ?_
    obtain rfl := Option.some.inj hf
    exact rd_dret C9 hlk hret hW ⟨rfl, rfl⟩ (by decide) (by decide) d_K_costOf_38
def f_K_requireMeans (M : rd_M) (p1 : Int32) (p2 : UInt64) : Option (String ⊕ Unit) :=
  if rd_in p1 4 then
  if 0 ≤ (Op.cmpValue (FP.dcmp ((M (3 + 3 * p1.toNatClampNeg)).2.2 2) p2) .g) then
    some (.inr ())
  else
    some (.inl "java/lang/IllegalStateException")
  else none
set_option maxRecDepth 100000 in
set_option maxHeartbeats 4000000 in
theorem c_K_requireMeans {l : Launch} (hls : l.stackTraces = false) {D : va_G} {Ka : Nat → ClassId} {ad : Nat → Nat} {M : rd_M} (p1 : Int32) (p2 : UInt64)  {o : String ⊕ Unit} (hf : f_K_requireMeans M p1 p2 = some o) :
    rd_Met l y_K_requireMeans b_K_requireMeans 4 none (6, 90, 1, 6) rd_T rd_ss D rd_cl (rd_ty Ka) (dk_L Ka) ad M [.ref (ad 0), .int p1, .double p2] (fun r M1 => ∃ v, o = .inr v ∧ r = none ∧ M = M1) (fun E => o = .inl E) := by
  refine rd_body (by decide) (Nat.le_of_ble_eq_true rfl) ?_
  intro p e s m below meth c C9 hlk hret hnt hTh hW ls hl
  have hx := C9.1.1
  have hb := C9.1.2.1
  have hl : lv_has ls 4 [(0, .ref (ad 0)), (1, .int p1), (2, .double p2)] := hl
  unfold f_K_requireMeans at hf
  refine lv_aload_n hx hb d_K_requireMeans_0 rfl (lv_at hl 0 rfl) ?_
  refine gf_K_accounts C9 hW l_K_15 d_K_requireMeans_1 ?_
  refine lv_iload_n hx hb d_K_requireMeans_4 rfl (lv_at hl 1 rfl) ?_
  obtain ⟨g1, hf⟩ := rd_g hf
  refine al_accounts C9 hW rfl g1 d_K_requireMeans_5 ?_
  refine gf_A_balance C9 hW (rd_lt g1) l_K_53 d_K_requireMeans_6 ?_
  refine lv_dload_n hx hb d_K_requireMeans_9 rfl (lv_at hl 2 rfl) ?_
  refine lv_dcmp hx hb d_K_requireMeans_10 ?_
  refine lv_if_ge (tgt := 25) hx hb d_K_requireMeans_11 (by decide) (fun c2 => ?_) (fun c2 => ?_)
  · have hf := rd_t hf c2
    obtain rfl := Option.some.inj hf
    exact rd_vret C9 hlk hret hW ⟨_, rfl, rfl, rfl⟩ (by decide) (by decide) d_K_requireMeans_25
  · have hf := rd_f hf c2
    obtain rfl := Option.some.inj hf
    exact rd_throwW (text := "it can't be paid") (names := ["java/lang/RuntimeException", "java/lang/Exception"]) hls C9 hnt hlk hTh hW hl.1 rd_gd (by decide) (by decide) l_K_87 in_IllegalStateException (List.mem_of_getElem? (i := 9) rfl) ta_K_IllegalStateException d_K_requireMeans_14 d_K_requireMeans_17 d_K_requireMeans_18 d_K_requireMeans_21 d_K_requireMeans_24 (Nat.le_of_ble_eq_true rfl) (Nat.le_of_ble_eq_true rfl) (Nat.le_of_ble_eq_true rfl) (Nat.le_of_ble_eq_true rfl) rfl (Nat.le_of_ble_eq_true rfl) (Nat.le_of_ble_eq_true rfl)
def f_K_payFor (M : rd_M) (p1 : Int32) (p2 : Int32) (p3 : Int32) : Option (String ⊕ (UInt64 × rd_M)) :=
  (f_K_costOf M p1 p2 p3).bind fun r1 =>
  rd_b (f_K_requireMeans M p1 r1) fun r2 =>
  if rd_in p1 4 then
  (f_A_spend M p1.toNatClampNeg p2 r1).bind fun r4 =>
  some (.inr (r1, r4))
  else none
set_option maxRecDepth 100000 in
set_option maxHeartbeats 4000000 in
theorem c_K_payFor {l : Launch} (hls : l.stackTraces = false) {D : va_G} {Ka : Nat → ClassId} {ad : Nat → Nat} {M : rd_M} (p1 : Int32) (p2 : Int32) (p3 : Int32)  {o : String ⊕ (UInt64 × rd_M)} (hf : f_K_payFor M p1 p2 p3 = some o) :
    rd_Met l y_K_payFor b_K_payFor 6 (some .double) (7, 113, 1, 6) rd_T rd_ss D rd_cl (rd_ty Ka) (dk_L Ka) ad M [.ref (ad 0), .int p1, .int p2, .int p3] (fun r M1 => ∃ v, o = .inr v ∧ r = some (.double v.1) ∧ v.2 = M1) (fun E => o = .inl E) := by
  refine rd_body (by decide) (Nat.le_of_ble_eq_true rfl) ?_
  intro p e s m below meth c C9 hlk hret hnt hTh hW ls hl
  have hx := C9.1.1
  have hb := C9.1.2.1
  have hl : lv_has ls 6 [(0, .ref (ad 0)), (1, .int p1), (2, .int p2), (3, .int p3)] := hl
  unfold f_K_payFor at hf
  refine lv_aload_n hx hb d_K_payFor_0 rfl (lv_at hl 0 rfl) ?_
  refine lv_iload_n hx hb d_K_payFor_1 rfl (lv_at hl 1 rfl) ?_
  refine lv_iload_n hx hb d_K_payFor_2 rfl (lv_at hl 2 rfl) ?_
  refine lv_iload_n hx hb d_K_payFor_3 rfl (lv_at hl 3 rfl) ?_
  obtain ⟨r1, qr1, hf⟩ := rd_bind hf
  refine rd_callV (As := [.int p1, .int p2, .int p3]) (rest := []) rd_gd C9 hTh hW (c_K_costOf hls p1 p2 p3 qr1) kc_K_costOf ki_K_costOf ks_K_costOf l_K_212 rfl (lt_K) (ce_K) rfl ⟨Nat.le_of_ble_eq_true rfl, Nat.le_of_ble_eq_true rfl⟩ ⟨Nat.le_of_ble_eq_true rfl, Nat.le_of_ble_eq_true rfl⟩ hl.1 rfl (Nat.le_of_ble_eq_true rfl) d_K_payFor_4 (fun E _ _ _ _ hex => hex.elim) (fun rr MM H locs hp hW => ?_)
  obtain ⟨rfl, rfl⟩ := hp
  refine lv_dstore (lv' := [(4, .double r1), (0, .ref (ad 0)), (1, .int p1), (2, .int p2), (3, .int p3)]) hx hb d_K_payFor_7 hl (by decide) rfl (fun ls hl => ?_)
  refine lv_aload_n hx hb d_K_payFor_9 rfl (lv_at hl 1 rfl) ?_
  refine lv_iload_n hx hb d_K_payFor_10 rfl (lv_at hl 2 rfl) ?_
  refine lv_dload hx hb d_K_payFor_11 (lv_at hl 0 rfl) ?_
  obtain ⟨or2, qr2, xr2, vr2⟩ := rd_b_run hf
  refine rd_callV (As := [.int p1, .double r1]) (rest := []) rd_gd C9 hTh hW (c_K_requireMeans hls p1 r1 qr2) kc_K_requireMeans ki_K_requireMeans ks_K_requireMeans l_K_215 rfl (lt_K) (ce_K) rfl ⟨Nat.le_of_ble_eq_true rfl, Nat.le_of_ble_eq_true rfl⟩ ⟨Nat.le_of_ble_eq_true rfl, Nat.le_of_ble_eq_true rfl⟩ hl.1 rfl (Nat.le_of_ble_eq_true rfl) d_K_payFor_13 (fun E ce q9 H locs hex hW h1 h2 h3 => rd_out hnt hlk hW (xr2 E hex) h1 h2 h3 (by decide) (by decide)) (fun rr MM H locs hp hW => ?_)
  obtain ⟨r2, er2, rfl, rfl⟩ := hp
  have hf := vr2 _ er2
  refine lv_aload_n hx hb d_K_payFor_16 rfl (lv_at hl 1 rfl) ?_
  refine gf_K_accounts C9 hW l_K_15 d_K_payFor_17 ?_
  refine lv_iload_n hx hb d_K_payFor_20 rfl (lv_at hl 2 rfl) ?_
  obtain ⟨g3, hf⟩ := rd_g hf
  refine al_accounts C9 hW rfl g3 d_K_payFor_21 ?_
  refine lv_iload_n hx hb d_K_payFor_22 rfl (lv_at hl 3 rfl) ?_
  refine lv_dload hx hb d_K_payFor_23 (lv_at hl 0 rfl) ?_
  obtain ⟨r4, qr4, hf⟩ := rd_bind hf
  refine rd_callV (As := [.int p2, .double r1]) (rest := []) rd_gd C9 hTh hW (c_A_spend hls p1.toNatClampNeg p2 r1 (rd_lt g3) qr4) kc_A_spend ki_A_spend ks_A_spend l_K_322 rfl (lt_A (rd_lt g3)) (ce_A (rd_lt g3)) rfl ⟨Nat.le_of_ble_eq_true rfl, Nat.le_of_ble_eq_true rfl⟩ ⟨Nat.le_of_ble_eq_true rfl, Nat.le_of_ble_eq_true rfl⟩ hl.1 rfl (Nat.le_of_ble_eq_true rfl) d_K_payFor_25 (fun E _ _ _ _ hex => hex.elim) (fun rr MM H locs hp hW => ?_)
  obtain ⟨rfl, rfl⟩ := hp
  refine lv_dload hx hb d_K_payFor_28 (lv_at hl 0 rfl) ?_
  obtain rfl := Option.some.inj hf
  exact rd_dret C9 hlk hret hW ⟨_, rfl, rfl, rfl⟩ (by decide) (by decide) d_K_payFor_30
def f_K_create (M : rd_M) (p1 : Int32) (p2 : Int32) (p3 : Int32) (p4 : Int32) (p5 : Int32) : Option (String ⊕ (Int32 × rd_M)) :=
  rd_b (f_K_requireRegistrar M p1) fun r1 =>
  rd_b (f_K_requireName M p2) fun r2 =>
  rd_b (f_K_requireRange M p3 1 3) fun r3 =>
  rd_b (f_K_requireRange M p4 0 99) fun r4 =>
  rd_b (f_K_thingThere M 0 p5) fun r5 =>
  if rd_in p2 10 then
  if ((M (37 + 8 * p2.toNatClampNeg)).1 3) = 0 then
    rd_b (f_K_payFor M p1 0 p3) fun r8 =>
    (f_D_open r8.2 p2.toNatClampNeg p1 (((r8.2 0).1 4) + (p3 * 10)) p4 p5).bind fun r9 =>
    (f_D_setGrace r9 p2.toNatClampNeg 0 r8.1 (((r9 0).1 4) + 3)).bind fun r10 =>
    some (.inr ((r10 (37 + 8 * p2.toNatClampNeg)).1 5, r10))
  else
    some (.inl "java/lang/IllegalStateException")
  else none
set_option maxRecDepth 100000 in
set_option maxHeartbeats 4000000 in
theorem c_K_create {l : Launch} (hls : l.stackTraces = false) {D : va_G} {Ka : Nat → ClassId} {ad : Nat → Nat} {M : rd_M} (p1 : Int32) (p2 : Int32) (p3 : Int32) (p4 : Int32) (p5 : Int32)  {o : String ⊕ (Int32 × rd_M)} (hf : f_K_create M p1 p2 p3 p4 p5 = some o) :
    rd_Met l y_K_create b_K_create 9 (some .int) (8, 138, 7, 42) rd_T rd_ss D rd_cl (rd_ty Ka) (dk_L Ka) ad M [.ref (ad 0), .int p1, .int p2, .int p3, .int p4, .int p5] (fun r M1 => ∃ v, o = .inr v ∧ r = some (.int v.1) ∧ v.2 = M1) (fun E => o = .inl E) := by
  refine rd_body (by decide) (Nat.le_of_ble_eq_true rfl) ?_
  intro p e s m below meth c C9 hlk hret hnt hTh hW ls hl
  have hx := C9.1.1
  have hb := C9.1.2.1
  have hl : lv_has ls 9 [(0, .ref (ad 0)), (1, .int p1), (2, .int p2), (3, .int p3), (4, .int p4), (5, .int p5)] := hl
  unfold f_K_create at hf
  refine lv_iload_n hx hb d_K_create_0 rfl (lv_at hl 1 rfl) ?_
  obtain ⟨or1, qr1, xr1, vr1⟩ := rd_b_run hf
  refine rd_callS (As := [.int p1]) (rest := []) rd_gd C9 hTh hW (c_K_requireRegistrar hls p1 qr1) kc_K_requireRegistrar ki_K_requireRegistrar l_K_46 rfl ⟨Nat.le_of_ble_eq_true rfl, Nat.le_of_ble_eq_true rfl⟩ ⟨Nat.le_of_ble_eq_true rfl, Nat.le_of_ble_eq_true rfl⟩ hl.1 rfl (Nat.le_of_ble_eq_true rfl) d_K_create_1 (fun E ce q9 H locs hex hW h1 h2 h3 => rd_out hnt hlk hW (xr1 E hex) h1 h2 h3 (by decide) (by decide)) (fun rr MM H locs hp hW => ?_)
  obtain ⟨r1, er1, rfl, rfl⟩ := hp
  have hf := vr1 _ er1
  refine lv_iload_n hx hb d_K_create_4 rfl (lv_at hl 2 rfl) ?_
  obtain ⟨or2, qr2, xr2, vr2⟩ := rd_b_run hf
  refine rd_callS (As := [.int p2]) (rest := []) rd_gd C9 hTh hW (c_K_requireName hls p2 qr2) kc_K_requireName ki_K_requireName l_K_102 rfl ⟨Nat.le_of_ble_eq_true rfl, Nat.le_of_ble_eq_true rfl⟩ ⟨Nat.le_of_ble_eq_true rfl, Nat.le_of_ble_eq_true rfl⟩ hl.1 rfl (Nat.le_of_ble_eq_true rfl) d_K_create_5 (fun E ce q9 H locs hex hW h1 h2 h3 => rd_out hnt hlk hW (xr2 E hex) h1 h2 h3 (by decide) (by decide)) (fun rr MM H locs hp hW => ?_)
  obtain ⟨r2, er2, rfl, rfl⟩ := hp
  have hf := vr2 _ er2
  refine lv_iload_n hx hb d_K_create_8 rfl (lv_at hl 3 rfl) ?_
  refine lv_iconst (v := 1) hx hb d_K_create_9 (by decide) ?_
  refine lv_iconst (v := 3) hx hb d_K_create_10 (by decide) ?_
  obtain ⟨or3, qr3, xr3, vr3⟩ := rd_b_run hf
  refine rd_callS (As := [.int p3, .int 1, .int 3]) (rest := []) rd_gd C9 hTh hW (c_K_requireRange hls p3 1 3 qr3) kc_K_requireRange ki_K_requireRange l_K_38 rfl ⟨Nat.le_of_ble_eq_true rfl, Nat.le_of_ble_eq_true rfl⟩ ⟨Nat.le_of_ble_eq_true rfl, Nat.le_of_ble_eq_true rfl⟩ hl.1 rfl (Nat.le_of_ble_eq_true rfl) d_K_create_11 (fun E ce q9 H locs hex hW h1 h2 h3 => rd_out hnt hlk hW (xr3 E hex) h1 h2 h3 (by decide) (by decide)) (fun rr MM H locs hp hW => ?_)
  obtain ⟨r3, er3, rfl, rfl⟩ := hp
  have hf := vr3 _ er3
  refine lv_iload hx hb d_K_create_14 (lv_at hl 4 rfl) ?_
  refine lv_iconst (v := 0) hx hb d_K_create_16 (by decide) ?_
  refine lv_bipush (v := 99) hx hb d_K_create_17 (by decide) ?_
  obtain ⟨or4, qr4, xr4, vr4⟩ := rd_b_run hf
  refine rd_callS (As := [.int p4, .int 0, .int 99]) (rest := []) rd_gd C9 hTh hW (c_K_requireRange hls p4 0 99 qr4) kc_K_requireRange ki_K_requireRange l_K_38 rfl ⟨Nat.le_of_ble_eq_true rfl, Nat.le_of_ble_eq_true rfl⟩ ⟨Nat.le_of_ble_eq_true rfl, Nat.le_of_ble_eq_true rfl⟩ hl.1 rfl (Nat.le_of_ble_eq_true rfl) d_K_create_19 (fun E ce q9 H locs hex hW h1 h2 h3 => rd_out hnt hlk hW (xr4 E hex) h1 h2 h3 (by decide) (by decide)) (fun rr MM H locs hp hW => ?_)
  obtain ⟨r4, er4, rfl, rfl⟩ := hp
  have hf := vr4 _ er4
  refine lv_aload_n hx hb d_K_create_22 rfl (lv_at hl 0 rfl) ?_
  refine lv_iconst (v := 0) hx hb d_K_create_23 (by decide) ?_
  refine lv_iload hx hb d_K_create_24 (lv_at hl 5 rfl) ?_
  obtain ⟨or5, qr5, xr5, vr5⟩ := rd_b_run hf
  refine rd_callV (As := [.int 0, .int p5]) (rest := []) rd_gd C9 hTh hW (c_K_thingThere hls 0 p5 qr5) kc_K_thingThere ki_K_thingThere ks_K_thingThere l_K_76 rfl (lt_K) (ce_K) rfl ⟨Nat.le_of_ble_eq_true rfl, Nat.le_of_ble_eq_true rfl⟩ ⟨Nat.le_of_ble_eq_true rfl, Nat.le_of_ble_eq_true rfl⟩ hl.1 rfl (Nat.le_of_ble_eq_true rfl) d_K_create_26 (fun E ce q9 H locs hex hW h1 h2 h3 => rd_out hnt hlk hW (xr5 E hex) h1 h2 h3 (by decide) (by decide)) (fun rr MM H locs hp hW => ?_)
  obtain ⟨r5, er5, rfl, rfl, br5_0, br5_1⟩ := hp
  have hf := vr5 _ er5
  refine lv_pop hx hb d_K_create_29 rfl ?_
  refine lv_aload_n hx hb d_K_create_30 rfl (lv_at hl 0 rfl) ?_
  refine gf_K_domains C9 hW l_K_29 d_K_create_31 ?_
  refine lv_iload_n hx hb d_K_create_34 rfl (lv_at hl 2 rfl) ?_
  obtain ⟨g6, hf⟩ := rd_g hf
  refine al_domains C9 hW rfl g6 d_K_create_35 ?_
  refine lv_astore (lv' := [(6, .ref (ad (37 + 8 * p2.toNatClampNeg))), (0, .ref (ad 0)), (1, .int p1), (2, .int p2), (3, .int p3), (4, .int p4), (5, .int p5)]) hx hb d_K_create_36 hl (by decide) rfl (fun ls hl => ?_)
  refine lv_aload hx hb d_K_create_38 (lv_at hl 0 rfl) ?_
  refine gf_D_there C9 hW (rd_lt g6) l_K_105 d_K_create_40 ?_
  refine lv_if_eq (tgt := 56) hx hb d_K_create_43 (by decide) (fun c7 => ?_) (fun c7 => ?_)
  · have hf := rd_t hf c7
    refine lv_aload_n hx hb d_K_create_56 rfl (lv_at hl 1 rfl) ?_
    refine lv_iload_n hx hb d_K_create_57 rfl (lv_at hl 2 rfl) ?_
    refine lv_iconst (v := 0) hx hb d_K_create_58 (by decide) ?_
    refine lv_iload_n hx hb d_K_create_59 rfl (lv_at hl 4 rfl) ?_
    obtain ⟨or8, qr8, xr8, vr8⟩ := rd_b_run hf
    refine rd_callV (As := [.int p1, .int 0, .int p3]) (rest := []) rd_gd C9 hTh hW (c_K_payFor hls p1 0 p3 qr8) kc_K_payFor ki_K_payFor ks_K_payFor l_K_108 rfl (lt_K) (ce_K) rfl ⟨Nat.le_of_ble_eq_true rfl, Nat.le_of_ble_eq_true rfl⟩ ⟨Nat.le_of_ble_eq_true rfl, Nat.le_of_ble_eq_true rfl⟩ hl.1 rfl (Nat.le_of_ble_eq_true rfl) d_K_create_60 (fun E ce q9 H locs hex hW h1 h2 h3 => rd_out hnt hlk hW (xr8 E hex) h1 h2 h3 (by decide) (by decide)) (fun rr MM H locs hp hW => ?_)
    obtain ⟨r8, er8, rfl, rfl⟩ := hp
    have hf := vr8 _ er8
    refine lv_dstore (lv' := [(7, .double r8.1), (6, .ref (ad (37 + 8 * p2.toNatClampNeg))), (0, .ref (ad 0)), (1, .int p1), (2, .int p2), (3, .int p3), (4, .int p4), (5, .int p5)]) hx hb d_K_create_63 hl (by decide) rfl (fun ls hl => ?_)
    refine lv_aload hx hb d_K_create_65 (lv_at hl 1 rfl) ?_
    refine lv_iload_n hx hb d_K_create_67 rfl (lv_at hl 3 rfl) ?_
    refine lv_aload_n hx hb d_K_create_68 rfl (lv_at hl 2 rfl) ?_
    refine gf_K_today C9 hW l_K_34 d_K_create_69 ?_
    refine lv_iload_n hx hb d_K_create_72 rfl (lv_at hl 5 rfl) ?_
    refine lv_bipush (v := 10) hx hb d_K_create_73 (by decide) ?_
    refine lv_imul hx hb d_K_create_75 ?_
    refine lv_iadd hx hb d_K_create_76 ?_
    refine lv_iload hx hb d_K_create_77 (lv_at hl 6 rfl) ?_
    refine lv_iload hx hb d_K_create_79 (lv_at hl 7 rfl) ?_
    obtain ⟨r9, qr9, hf⟩ := rd_bind hf
    refine rd_callV (As := [.int p1, .int (((r8.2 0).1 4) + (p3 * 10)), .int p4, .int p5]) (rest := []) rd_gd C9 hTh hW (c_D_open hls p2.toNatClampNeg p1 (((r8.2 0).1 4) + (p3 * 10)) p4 p5 (rd_lt g6) qr9) kc_D_open ki_D_open ks_D_open l_K_112 rfl (lt_D (rd_lt g6)) (ce_D (rd_lt g6)) rfl ⟨Nat.le_of_ble_eq_true rfl, Nat.le_of_ble_eq_true rfl⟩ ⟨Nat.le_of_ble_eq_true rfl, Nat.le_of_ble_eq_true rfl⟩ hl.1 rfl (Nat.le_of_ble_eq_true rfl) d_K_create_81 (fun E _ _ _ _ hex => hex.elim) (fun rr MM H locs hp hW => ?_)
    obtain ⟨rfl, rfl⟩ := hp
    refine lv_aload hx hb d_K_create_84 (lv_at hl 1 rfl) ?_
    refine lv_iconst (v := 0) hx hb d_K_create_86 (by decide) ?_
    refine lv_dload hx hb d_K_create_87 (lv_at hl 0 rfl) ?_
    refine lv_aload_n hx hb d_K_create_89 rfl (lv_at hl 2 rfl) ?_
    refine gf_K_today C9 hW l_K_34 d_K_create_90 ?_
    refine lv_iconst (v := 3) hx hb d_K_create_93 (by decide) ?_
    refine lv_iadd hx hb d_K_create_94 ?_
    obtain ⟨r10, qr10, hf⟩ := rd_bind hf
    refine rd_callV (As := [.int 0, .double r8.1, .int (((r9 0).1 4) + 3)]) (rest := []) rd_gd C9 hTh hW (c_D_setGrace hls p2.toNatClampNeg 0 r8.1 (((r9 0).1 4) + 3) (rd_lt g6) qr10) kc_D_setGrace ki_D_setGrace ks_D_setGrace l_K_116 rfl (lt_D (rd_lt g6)) (ce_D (rd_lt g6)) rfl ⟨Nat.le_of_ble_eq_true rfl, Nat.le_of_ble_eq_true rfl⟩ ⟨Nat.le_of_ble_eq_true rfl, Nat.le_of_ble_eq_true rfl⟩ hl.1 rfl (Nat.le_of_ble_eq_true rfl) d_K_create_95 (fun E _ _ _ _ hex => hex.elim) (fun rr MM H locs hp hW => ?_)
    obtain ⟨rfl, rfl⟩ := hp
    refine lv_aload hx hb d_K_create_98 (lv_at hl 1 rfl) ?_
    refine gf_D_expiry C9 hW (rd_lt g6) l_K_120 d_K_create_100 ?_
    obtain rfl := Option.some.inj hf
    exact rd_iret C9 hlk hret hW ⟨_, rfl, rfl, rfl⟩ (by decide) (by decide) d_K_create_103
  · have hf := rd_f hf c7
    obtain rfl := Option.some.inj hf
    exact rd_throw (text := "the domain is there already") (names := ["java/lang/RuntimeException", "java/lang/Exception"]) hls C9 hnt hlk hTh hW hl.1 rd_gd (by decide) (by decide) l_K_87 in_IllegalStateException (List.mem_of_getElem? (i := 8) rfl) ta_K_IllegalStateException d_K_create_46 d_K_create_49 d_K_create_50 d_K_create_52 d_K_create_55 (Nat.le_of_ble_eq_true rfl) (Nat.le_of_ble_eq_true rfl) (Nat.le_of_ble_eq_true rfl) (Nat.le_of_ble_eq_true rfl) rfl (Nat.le_of_ble_eq_true rfl) (Nat.le_of_ble_eq_true rfl)
def f_K_requireState (M : rd_M) (r0_0 : Nat) (p1 : Int32) : Option (String ⊕ Unit) :=
  if ((M (37 + 8 * r0_0)).1 8) = p1 then
    some (.inr ())
  else
    some (.inl "java/lang/UnsupportedOperationException")
set_option maxRecDepth 100000 in
set_option maxHeartbeats 4000000 in
theorem c_K_requireState {l : Launch} (hls : l.stackTraces = false) {D : va_G} {Ka : Nat → ClassId} {ad : Nat → Nat} {M : rd_M} (r0_0 : Nat) (p1 : Int32) (h0_0 : r0_0 < 10) {o : String ⊕ Unit} (hf : f_K_requireState M r0_0 p1 = some o) :
    rd_Met l y_K_requireState b_K_requireState 2 none (6, 90, 1, 6) rd_T rd_ss D rd_cl (rd_ty Ka) (dk_L Ka) ad M [.ref (ad (37 + 8 * r0_0)), .int p1] (fun r M1 => ∃ v, o = .inr v ∧ r = none ∧ M = M1) (fun E => o = .inl E) := by
  refine rd_body (by decide) (Nat.le_of_ble_eq_true rfl) ?_
  intro p e s m below meth c C9 hlk hret hnt hTh hW ls hl
  have hx := C9.1.1
  have hb := C9.1.2.1
  have hl : lv_has ls 2 [(0, .ref (ad (37 + 8 * r0_0))), (1, .int p1)] := hl
  unfold f_K_requireState at hf
  refine lv_aload_n hx hb d_K_requireState_0 rfl (lv_at hl 0 rfl) ?_
  refine gf_D_state C9 hW h0_0 l_K_242 d_K_requireState_1 ?_
  refine lv_iload_n hx hb d_K_requireState_4 rfl (lv_at hl 1 rfl) ?_
  refine lv_icmp_eq (tgt := 19) hx hb d_K_requireState_5 (by decide) (fun c1 => ?_) (fun c1 => ?_)
  · have hf := rd_t hf c1
    obtain rfl := Option.some.inj hf
    exact rd_vret C9 hlk hret hW ⟨_, rfl, rfl, rfl⟩ (by decide) (by decide) d_K_requireState_19
  · have hf := rd_f hf c1
    obtain rfl := Option.some.inj hf
    exact rd_throwW (text := "the state of the domain forbids that") (names := ["java/lang/RuntimeException", "java/lang/Exception"]) hls C9 hnt hlk hTh hW hl.1 rd_gd (by decide) (by decide) l_K_188 in_UnsupportedOperationException (List.mem_of_getElem? (i := 10) rfl) ta_K_UnsupportedOperationException d_K_requireState_8 d_K_requireState_11 d_K_requireState_12 d_K_requireState_15 d_K_requireState_18 (Nat.le_of_ble_eq_true rfl) (Nat.le_of_ble_eq_true rfl) (Nat.le_of_ble_eq_true rfl) (Nat.le_of_ble_eq_true rfl) rfl (Nat.le_of_ble_eq_true rfl) (Nat.le_of_ble_eq_true rfl)
def f_K_requireUnlocked (M : rd_M) (r0_0 : Nat) (p1 : Int32) : Option (String ⊕ Unit) :=
  if (((M (37 + 8 * r0_0)).1 7) &&& p1) = 0 then
    some (.inr ())
  else
    some (.inl "java/lang/UnsupportedOperationException")
set_option maxRecDepth 100000 in
set_option maxHeartbeats 4000000 in
theorem c_K_requireUnlocked {l : Launch} (hls : l.stackTraces = false) {D : va_G} {Ka : Nat → ClassId} {ad : Nat → Nat} {M : rd_M} (r0_0 : Nat) (p1 : Int32) (h0_0 : r0_0 < 10) {o : String ⊕ Unit} (hf : f_K_requireUnlocked M r0_0 p1 = some o) :
    rd_Met l y_K_requireUnlocked b_K_requireUnlocked 2 none (6, 90, 1, 6) rd_T rd_ss D rd_cl (rd_ty Ka) (dk_L Ka) ad M [.ref (ad (37 + 8 * r0_0)), .int p1] (fun r M1 => ∃ v, o = .inr v ∧ r = none ∧ M = M1) (fun E => o = .inl E) := by
  refine rd_body (by decide) (Nat.le_of_ble_eq_true rfl) ?_
  intro p e s m below meth c C9 hlk hret hnt hTh hW ls hl
  have hx := C9.1.1
  have hb := C9.1.2.1
  have hl : lv_has ls 2 [(0, .ref (ad (37 + 8 * r0_0))), (1, .int p1)] := hl
  unfold f_K_requireUnlocked at hf
  refine lv_aload_n hx hb d_K_requireUnlocked_0 rfl (lv_at hl 0 rfl) ?_
  refine gf_D_locks C9 hW h0_0 l_K_153 d_K_requireUnlocked_1 ?_
  refine lv_iload_n hx hb d_K_requireUnlocked_4 rfl (lv_at hl 1 rfl) ?_
  refine lv_iand hx hb d_K_requireUnlocked_5 ?_
  refine lv_if_eq (tgt := 20) hx hb d_K_requireUnlocked_6 (by decide) (fun c1 => ?_) (fun c1 => ?_)
  · have hf := rd_t hf c1
    obtain rfl := Option.some.inj hf
    exact rd_vret C9 hlk hret hW ⟨_, rfl, rfl, rfl⟩ (by decide) (by decide) d_K_requireUnlocked_20
  · have hf := rd_f hf c1
    obtain rfl := Option.some.inj hf
    exact rd_throwW (text := "a lock forbids that") (names := ["java/lang/RuntimeException", "java/lang/Exception"]) hls C9 hnt hlk hTh hW hl.1 rd_gd (by decide) (by decide) l_K_188 in_UnsupportedOperationException (List.mem_of_getElem? (i := 11) rfl) ta_K_UnsupportedOperationException d_K_requireUnlocked_9 d_K_requireUnlocked_12 d_K_requireUnlocked_13 d_K_requireUnlocked_16 d_K_requireUnlocked_19 (Nat.le_of_ble_eq_true rfl) (Nat.le_of_ble_eq_true rfl) (Nat.le_of_ble_eq_true rfl) (Nat.le_of_ble_eq_true rfl) rfl (Nat.le_of_ble_eq_true rfl) (Nat.le_of_ble_eq_true rfl)
def f_K_requireAddable (M : rd_M) (r0_0 : Nat) (r0_1 : Nat) (p1 : Int32) : Option (String ⊕ Unit) :=
  (f_R_placeOf M r0_0 r0_1 p1).bind fun r1 =>
  if r1 = (-1) then
    if ((M (39 + 8 * r0_0 + 2 * r0_1)).1 1) < 3 then
      some (.inr ())
    else
      some (.inl "java/lang/IllegalStateException")
  else
    some (.inl "java/lang/IllegalStateException")
set_option maxRecDepth 100000 in
set_option maxHeartbeats 4000000 in
theorem c_K_requireAddable {l : Launch} (hls : l.stackTraces = false) {D : va_G} {Ka : Nat → ClassId} {ad : Nat → Nat} {M : rd_M} (r0_0 : Nat) (r0_1 : Nat) (p1 : Int32) (h0_0 : r0_0 < 10) (h0_1 : r0_1 < 2) {o : String ⊕ Unit} (hf : f_K_requireAddable M r0_0 r0_1 p1 = some o) :
    rd_Met l y_K_requireAddable b_K_requireAddable 2 none (6, 90, 1, 6) rd_T rd_ss D rd_cl (rd_ty Ka) (dk_L Ka) ad M [.ref (ad (39 + 8 * r0_0 + 2 * r0_1)), .int p1] (fun r M1 => ∃ v, o = .inr v ∧ r = none ∧ M = M1) (fun E => o = .inl E) := by
  refine rd_body (by decide) (Nat.le_of_ble_eq_true rfl) ?_
  intro p e s m below meth c C9 hlk hret hnt hTh hW ls hl
  have hx := C9.1.1
  have hb := C9.1.2.1
  have hl : lv_has ls 2 [(0, .ref (ad (39 + 8 * r0_0 + 2 * r0_1))), (1, .int p1)] := hl
  unfold f_K_requireAddable at hf
  refine lv_aload_n hx hb d_K_requireAddable_0 rfl (lv_at hl 0 rfl) ?_
  refine lv_iload_n hx hb d_K_requireAddable_1 rfl (lv_at hl 1 rfl) ?_
  obtain ⟨r1, qr1, hf⟩ := rd_bind hf
  refine rd_callV (As := [.int p1]) (rest := []) rd_gd C9 hTh hW (c_R_placeOf hls r0_0 r0_1 p1 h0_0 h0_1 qr1) kc_R_placeOf ki_R_placeOf ks_R_placeOf l_K_309 rfl (lt_R h0_0 h0_1) (ce_R h0_0 h0_1) rfl ⟨Nat.le_of_ble_eq_true rfl, Nat.le_of_ble_eq_true rfl⟩ ⟨Nat.le_of_ble_eq_true rfl, Nat.le_of_ble_eq_true rfl⟩ hl.1 rfl (Nat.le_of_ble_eq_true rfl) d_K_requireAddable_2 (fun E _ _ _ _ hex => hex.elim) (fun rr MM H locs hp hW => ?_)
  obtain ⟨rfl, rfl⟩ := hp
  refine lv_iconst (v := (-1)) hx hb d_K_requireAddable_5 (by decide) ?_
  refine lv_icmp_ne (tgt := 17) hx hb d_K_requireAddable_6 (by decide) (fun c2 => ?_) (fun c2 => ?_)
  · have hf := rd_f hf c2
    obtain rfl := Option.some.inj hf
    exact rd_throwW (text := "the domain has it already or has no room") (names := ["java/lang/RuntimeException", "java/lang/Exception"]) hls C9 hnt hlk hTh hW hl.1 rd_gd (by decide) (by decide) l_K_87 in_IllegalStateException (List.mem_of_getElem? (i := 12) rfl) ta_K_IllegalStateException d_K_requireAddable_17 d_K_requireAddable_20 d_K_requireAddable_21 d_K_requireAddable_24 d_K_requireAddable_27 (Nat.le_of_ble_eq_true rfl) (Nat.le_of_ble_eq_true rfl) (Nat.le_of_ble_eq_true rfl) (Nat.le_of_ble_eq_true rfl) rfl (Nat.le_of_ble_eq_true rfl) (Nat.le_of_ble_eq_true rfl)
  · have hf := rd_t hf c2
    refine lv_aload_n hx hb d_K_requireAddable_9 rfl (lv_at hl 0 rfl) ?_
    refine gf_R_size C9 hW h0_0 h0_1 l_K_150 d_K_requireAddable_10 ?_
    refine lv_iconst (v := 3) hx hb d_K_requireAddable_13 (by decide) ?_
    refine lv_icmp_lt (tgt := 28) hx hb d_K_requireAddable_14 (by decide) (fun c3 => ?_) (fun c3 => ?_)
    · have hf := rd_t hf c3
      obtain rfl := Option.some.inj hf
      exact rd_vret C9 hlk hret hW ⟨_, rfl, rfl, rfl⟩ (by decide) (by decide) d_K_requireAddable_28
    · have hf := rd_f hf c3
      obtain rfl := Option.some.inj hf
      exact rd_throwW (text := "the domain has it already or has no room") (names := ["java/lang/RuntimeException", "java/lang/Exception"]) hls C9 hnt hlk hTh hW hl.1 rd_gd (by decide) (by decide) l_K_87 in_IllegalStateException (List.mem_of_getElem? (i := 12) rfl) ta_K_IllegalStateException d_K_requireAddable_17 d_K_requireAddable_20 d_K_requireAddable_21 d_K_requireAddable_24 d_K_requireAddable_27 (Nat.le_of_ble_eq_true rfl) (Nat.le_of_ble_eq_true rfl) (Nat.le_of_ble_eq_true rfl) (Nat.le_of_ble_eq_true rfl) rfl (Nat.le_of_ble_eq_true rfl) (Nat.le_of_ble_eq_true rfl)
def f_K_requireTakeable (M : rd_M) (r0_0 : Nat) (r0_1 : Nat) (p1 : Int32) (p2 : Int32) : Option (String ⊕ Unit) :=
  (f_R_placeOf M r0_0 r0_1 p1).bind fun r1 =>
  if r1 = (-1) then
    some (.inl "java/lang/IllegalStateException")
  else
    if p2 < ((M (39 + 8 * r0_0 + 2 * r0_1)).1 1) then
      some (.inr ())
    else
      some (.inl "java/lang/IllegalStateException")
set_option maxRecDepth 100000 in
set_option maxHeartbeats 4000000 in
theorem c_K_requireTakeable {l : Launch} (hls : l.stackTraces = false) {D : va_G} {Ka : Nat → ClassId} {ad : Nat → Nat} {M : rd_M} (r0_0 : Nat) (r0_1 : Nat) (p1 : Int32) (p2 : Int32) (h0_0 : r0_0 < 10) (h0_1 : r0_1 < 2) {o : String ⊕ Unit} (hf : f_K_requireTakeable M r0_0 r0_1 p1 p2 = some o) :
    rd_Met l y_K_requireTakeable b_K_requireTakeable 3 none (6, 90, 1, 6) rd_T rd_ss D rd_cl (rd_ty Ka) (dk_L Ka) ad M [.ref (ad (39 + 8 * r0_0 + 2 * r0_1)), .int p1, .int p2] (fun r M1 => ∃ v, o = .inr v ∧ r = none ∧ M = M1) (fun E => o = .inl E) := by
  refine rd_body (by decide) (Nat.le_of_ble_eq_true rfl) ?_
  intro p e s m below meth c C9 hlk hret hnt hTh hW ls hl
  have hx := C9.1.1
  have hb := C9.1.2.1
  have hl : lv_has ls 3 [(0, .ref (ad (39 + 8 * r0_0 + 2 * r0_1))), (1, .int p1), (2, .int p2)] := hl
  unfold f_K_requireTakeable at hf
  refine lv_aload_n hx hb d_K_requireTakeable_0 rfl (lv_at hl 0 rfl) ?_
  refine lv_iload_n hx hb d_K_requireTakeable_1 rfl (lv_at hl 1 rfl) ?_
  obtain ⟨r1, qr1, hf⟩ := rd_bind hf
  refine rd_callV (As := [.int p1]) (rest := []) rd_gd C9 hTh hW (c_R_placeOf hls r0_0 r0_1 p1 h0_0 h0_1 qr1) kc_R_placeOf ki_R_placeOf ks_R_placeOf l_K_309 rfl (lt_R h0_0 h0_1) (ce_R h0_0 h0_1) rfl ⟨Nat.le_of_ble_eq_true rfl, Nat.le_of_ble_eq_true rfl⟩ ⟨Nat.le_of_ble_eq_true rfl, Nat.le_of_ble_eq_true rfl⟩ hl.1 rfl (Nat.le_of_ble_eq_true rfl) d_K_requireTakeable_2 (fun E _ _ _ _ hex => hex.elim) (fun rr MM H locs hp hW => ?_)
  obtain ⟨rfl, rfl⟩ := hp
  refine lv_iconst (v := (-1)) hx hb d_K_requireTakeable_5 (by decide) ?_
  refine lv_icmp_eq (tgt := 17) hx hb d_K_requireTakeable_6 (by decide) (fun c2 => ?_) (fun c2 => ?_)
  · have hf := rd_t hf c2
    obtain rfl := Option.some.inj hf
    exact rd_throwW (text := "the domain has it not or needs it") (names := ["java/lang/RuntimeException", "java/lang/Exception"]) hls C9 hnt hlk hTh hW hl.1 rd_gd (by decide) (by decide) l_K_87 in_IllegalStateException (List.mem_of_getElem? (i := 13) rfl) ta_K_IllegalStateException d_K_requireTakeable_17 d_K_requireTakeable_20 d_K_requireTakeable_21 d_K_requireTakeable_24 d_K_requireTakeable_27 (Nat.le_of_ble_eq_true rfl) (Nat.le_of_ble_eq_true rfl) (Nat.le_of_ble_eq_true rfl) (Nat.le_of_ble_eq_true rfl) rfl (Nat.le_of_ble_eq_true rfl) (Nat.le_of_ble_eq_true rfl)
  · have hf := rd_f hf c2
    refine lv_aload_n hx hb d_K_requireTakeable_9 rfl (lv_at hl 0 rfl) ?_
    refine gf_R_size C9 hW h0_0 h0_1 l_K_150 d_K_requireTakeable_10 ?_
    refine lv_iload_n hx hb d_K_requireTakeable_13 rfl (lv_at hl 2 rfl) ?_
    refine lv_icmp_gt (tgt := 28) hx hb d_K_requireTakeable_14 (by decide) (fun c3 => ?_) (fun c3 => ?_)
    · have hf := rd_t hf c3
      obtain rfl := Option.some.inj hf
      exact rd_vret C9 hlk hret hW ⟨_, rfl, rfl, rfl⟩ (by decide) (by decide) d_K_requireTakeable_28
    · have hf := rd_f hf c3
      obtain rfl := Option.some.inj hf
      exact rd_throwW (text := "the domain has it not or needs it") (names := ["java/lang/RuntimeException", "java/lang/Exception"]) hls C9 hnt hlk hTh hW hl.1 rd_gd (by decide) (by decide) l_K_87 in_IllegalStateException (List.mem_of_getElem? (i := 13) rfl) ta_K_IllegalStateException d_K_requireTakeable_17 d_K_requireTakeable_20 d_K_requireTakeable_21 d_K_requireTakeable_24 d_K_requireTakeable_27 (Nat.le_of_ble_eq_true rfl) (Nat.le_of_ble_eq_true rfl) (Nat.le_of_ble_eq_true rfl) (Nat.le_of_ble_eq_true rfl) rfl (Nat.le_of_ble_eq_true rfl) (Nat.le_of_ble_eq_true rfl)
def f_K_change (M : rd_M) (p1 : Int32) (p2 : Int32) (p3 : Int32) (p4 : Int32) (p5 : Int32) : Option (String ⊕ (Int32 × rd_M)) :=
  rd_b (f_K_requireRegistrar M p1) fun r1 =>
  rd_b (f_K_requireName M p2) fun r2 =>
  rd_b (f_K_requireRange M p3 0 1) fun r3 =>
  rd_b (f_K_domainThere M p2) fun r4 =>
  rd_b (f_K_thingThere M p3 p4) fun r5 =>
  rd_b (f_K_requireOwner M ((M (37 + 8 * r4)).1 4) p1) fun r6 =>
  rd_b (f_K_requireState M r4 0) fun r7 =>
  rd_b (f_K_requireUnlocked M r4 1) fun r8 =>
  if rd_in p3 2 then
  if p5 = 0 then
    rd_k (if p3 = 0 then 1 else 0 : Int32) fun z12 =>
    rd_b (f_K_requireTakeable M r4 p3.toNatClampNeg p4 z12) fun r13 =>
    (f_R_takeOff M r4 p3.toNatClampNeg p4).bind fun r14 =>
    some (.inr ((r14 (39 + 8 * r4 + 2 * p3.toNatClampNeg)).1 1, r14))
  else
    rd_b (f_K_requireAddable M r4 p3.toNatClampNeg p4) fun r15 =>
    (f_R_append M r4 p3.toNatClampNeg p4).bind fun r16 =>
    some (.inr ((r16 (39 + 8 * r4 + 2 * p3.toNatClampNeg)).1 1, r16))
  else none
set_option maxRecDepth 100000 in
set_option maxHeartbeats 4000000 in
theorem c_K_change {l : Launch} (hls : l.stackTraces = false) {D : va_G} {Ka : Nat → ClassId} {ad : Nat → Nat} {M : rd_M} (p1 : Int32) (p2 : Int32) (p3 : Int32) (p4 : Int32) (p5 : Int32)  {o : String ⊕ (Int32 × rd_M)} (hf : f_K_change M p1 p2 p3 p4 p5 = some o) :
    rd_Met l y_K_change b_K_change 8 (some .int) (8, 132, 10, 60) rd_T rd_ss D rd_cl (rd_ty Ka) (dk_L Ka) ad M [.ref (ad 0), .int p1, .int p2, .int p3, .int p4, .int p5] (fun r M1 => ∃ v, o = .inr v ∧ r = some (.int v.1) ∧ v.2 = M1) (fun E => o = .inl E) := by
  refine rd_body (by decide) (Nat.le_of_ble_eq_true rfl) ?_
  intro p e s m below meth c C9 hlk hret hnt hTh hW ls hl
  have hx := C9.1.1
  have hb := C9.1.2.1
  have hl : lv_has ls 8 [(0, .ref (ad 0)), (1, .int p1), (2, .int p2), (3, .int p3), (4, .int p4), (5, .int p5)] := hl
  unfold f_K_change at hf
  refine lv_iload_n hx hb d_K_change_0 rfl (lv_at hl 1 rfl) ?_
  obtain ⟨or1, qr1, xr1, vr1⟩ := rd_b_run hf
  refine rd_callS (As := [.int p1]) (rest := []) rd_gd C9 hTh hW (c_K_requireRegistrar hls p1 qr1) kc_K_requireRegistrar ki_K_requireRegistrar l_K_46 rfl ⟨Nat.le_of_ble_eq_true rfl, Nat.le_of_ble_eq_true rfl⟩ ⟨Nat.le_of_ble_eq_true rfl, Nat.le_of_ble_eq_true rfl⟩ hl.1 rfl (Nat.le_of_ble_eq_true rfl) d_K_change_1 (fun E ce q9 H locs hex hW h1 h2 h3 => rd_out hnt hlk hW (xr1 E hex) h1 h2 h3 (by decide) (by decide)) (fun rr MM H locs hp hW => ?_)
  obtain ⟨r1, er1, rfl, rfl⟩ := hp
  have hf := vr1 _ er1
  refine lv_iload_n hx hb d_K_change_4 rfl (lv_at hl 2 rfl) ?_
  obtain ⟨or2, qr2, xr2, vr2⟩ := rd_b_run hf
  refine rd_callS (As := [.int p2]) (rest := []) rd_gd C9 hTh hW (c_K_requireName hls p2 qr2) kc_K_requireName ki_K_requireName l_K_102 rfl ⟨Nat.le_of_ble_eq_true rfl, Nat.le_of_ble_eq_true rfl⟩ ⟨Nat.le_of_ble_eq_true rfl, Nat.le_of_ble_eq_true rfl⟩ hl.1 rfl (Nat.le_of_ble_eq_true rfl) d_K_change_5 (fun E ce q9 H locs hex hW h1 h2 h3 => rd_out hnt hlk hW (xr2 E hex) h1 h2 h3 (by decide) (by decide)) (fun rr MM H locs hp hW => ?_)
  obtain ⟨r2, er2, rfl, rfl⟩ := hp
  have hf := vr2 _ er2
  refine lv_iload_n hx hb d_K_change_8 rfl (lv_at hl 3 rfl) ?_
  refine lv_iconst (v := 0) hx hb d_K_change_9 (by decide) ?_
  refine lv_iconst (v := 1) hx hb d_K_change_10 (by decide) ?_
  obtain ⟨or3, qr3, xr3, vr3⟩ := rd_b_run hf
  refine rd_callS (As := [.int p3, .int 0, .int 1]) (rest := []) rd_gd C9 hTh hW (c_K_requireRange hls p3 0 1 qr3) kc_K_requireRange ki_K_requireRange l_K_38 rfl ⟨Nat.le_of_ble_eq_true rfl, Nat.le_of_ble_eq_true rfl⟩ ⟨Nat.le_of_ble_eq_true rfl, Nat.le_of_ble_eq_true rfl⟩ hl.1 rfl (Nat.le_of_ble_eq_true rfl) d_K_change_11 (fun E ce q9 H locs hex hW h1 h2 h3 => rd_out hnt hlk hW (xr3 E hex) h1 h2 h3 (by decide) (by decide)) (fun rr MM H locs hp hW => ?_)
  obtain ⟨r3, er3, rfl, rfl⟩ := hp
  have hf := vr3 _ er3
  refine lv_aload_n hx hb d_K_change_14 rfl (lv_at hl 0 rfl) ?_
  refine lv_iload_n hx hb d_K_change_15 rfl (lv_at hl 2 rfl) ?_
  obtain ⟨or4, qr4, xr4, vr4⟩ := rd_b_run hf
  refine rd_callV (As := [.int p2]) (rest := []) rd_gd C9 hTh hW (c_K_domainThere hls p2 qr4) kc_K_domainThere ki_K_domainThere ks_K_domainThere l_K_65 rfl (lt_K) (ce_K) rfl ⟨Nat.le_of_ble_eq_true rfl, Nat.le_of_ble_eq_true rfl⟩ ⟨Nat.le_of_ble_eq_true rfl, Nat.le_of_ble_eq_true rfl⟩ hl.1 rfl (Nat.le_of_ble_eq_true rfl) d_K_change_16 (fun E ce q9 H locs hex hW h1 h2 h3 => rd_out hnt hlk hW (xr4 E hex) h1 h2 h3 (by decide) (by decide)) (fun rr MM H locs hp hW => ?_)
  obtain ⟨r4, er4, rfl, rfl, br4_0⟩ := hp
  have hf := vr4 _ er4
  refine lv_astore (lv' := [(6, .ref (ad (37 + 8 * r4))), (0, .ref (ad 0)), (1, .int p1), (2, .int p2), (3, .int p3), (4, .int p4), (5, .int p5)]) hx hb d_K_change_19 hl (by decide) rfl (fun ls hl => ?_)
  refine lv_aload_n hx hb d_K_change_21 rfl (lv_at hl 1 rfl) ?_
  refine lv_iload_n hx hb d_K_change_22 rfl (lv_at hl 4 rfl) ?_
  refine lv_iload hx hb d_K_change_23 (lv_at hl 5 rfl) ?_
  obtain ⟨or5, qr5, xr5, vr5⟩ := rd_b_run hf
  refine rd_callV (As := [.int p3, .int p4]) (rest := []) rd_gd C9 hTh hW (c_K_thingThere hls p3 p4 qr5) kc_K_thingThere ki_K_thingThere ks_K_thingThere l_K_76 rfl (lt_K) (ce_K) rfl ⟨Nat.le_of_ble_eq_true rfl, Nat.le_of_ble_eq_true rfl⟩ ⟨Nat.le_of_ble_eq_true rfl, Nat.le_of_ble_eq_true rfl⟩ hl.1 rfl (Nat.le_of_ble_eq_true rfl) d_K_change_25 (fun E ce q9 H locs hex hW h1 h2 h3 => rd_out hnt hlk hW (xr5 E hex) h1 h2 h3 (by decide) (by decide)) (fun rr MM H locs hp hW => ?_)
  obtain ⟨r5, er5, rfl, rfl, br5_0, br5_1⟩ := hp
  have hf := vr5 _ er5
  refine lv_pop hx hb d_K_change_28 rfl ?_
  refine lv_aload hx hb d_K_change_29 (lv_at hl 0 rfl) ?_
  refine gf_D_owner C9 hW br4_0 l_K_69 d_K_change_31 ?_
  refine lv_iload_n hx hb d_K_change_34 rfl (lv_at hl 2 rfl) ?_
  obtain ⟨or6, qr6, xr6, vr6⟩ := rd_b_run hf
  refine rd_callS (As := [.int ((M (37 + 8 * r4)).1 4), .int p1]) (rest := []) rd_gd C9 hTh hW (c_K_requireOwner hls ((M (37 + 8 * r4)).1 4) p1 qr6) kc_K_requireOwner ki_K_requireOwner l_K_72 rfl ⟨Nat.le_of_ble_eq_true rfl, Nat.le_of_ble_eq_true rfl⟩ ⟨Nat.le_of_ble_eq_true rfl, Nat.le_of_ble_eq_true rfl⟩ hl.1 rfl (Nat.le_of_ble_eq_true rfl) d_K_change_35 (fun E ce q9 H locs hex hW h1 h2 h3 => rd_out hnt hlk hW (xr6 E hex) h1 h2 h3 (by decide) (by decide)) (fun rr MM H locs hp hW => ?_)
  obtain ⟨r6, er6, rfl, rfl⟩ := hp
  have hf := vr6 _ er6
  refine lv_aload hx hb d_K_change_38 (lv_at hl 0 rfl) ?_
  refine lv_iconst (v := 0) hx hb d_K_change_40 (by decide) ?_
  obtain ⟨or7, qr7, xr7, vr7⟩ := rd_b_run hf
  refine rd_callS (As := [.ref (ad (37 + 8 * r4)), .int 0]) (rest := []) rd_gd C9 hTh hW (c_K_requireState hls r4 0 br4_0 qr7) kc_K_requireState ki_K_requireState l_K_123 rfl ⟨Nat.le_of_ble_eq_true rfl, Nat.le_of_ble_eq_true rfl⟩ ⟨Nat.le_of_ble_eq_true rfl, Nat.le_of_ble_eq_true rfl⟩ hl.1 rfl (Nat.le_of_ble_eq_true rfl) d_K_change_41 (fun E ce q9 H locs hex hW h1 h2 h3 => rd_out hnt hlk hW (xr7 E hex) h1 h2 h3 (by decide) (by decide)) (fun rr MM H locs hp hW => ?_)
  obtain ⟨r7, er7, rfl, rfl⟩ := hp
  have hf := vr7 _ er7
  refine lv_aload hx hb d_K_change_44 (lv_at hl 0 rfl) ?_
  refine lv_iconst (v := 1) hx hb d_K_change_46 (by decide) ?_
  obtain ⟨or8, qr8, xr8, vr8⟩ := rd_b_run hf
  refine rd_callS (As := [.ref (ad (37 + 8 * r4)), .int 1]) (rest := []) rd_gd C9 hTh hW (c_K_requireUnlocked hls r4 1 br4_0 qr8) kc_K_requireUnlocked ki_K_requireUnlocked l_K_127 rfl ⟨Nat.le_of_ble_eq_true rfl, Nat.le_of_ble_eq_true rfl⟩ ⟨Nat.le_of_ble_eq_true rfl, Nat.le_of_ble_eq_true rfl⟩ hl.1 rfl (Nat.le_of_ble_eq_true rfl) d_K_change_47 (fun E ce q9 H locs hex hW h1 h2 h3 => rd_out hnt hlk hW (xr8 E hex) h1 h2 h3 (by decide) (by decide)) (fun rr MM H locs hp hW => ?_)
  obtain ⟨r8, er8, rfl, rfl⟩ := hp
  have hf := vr8 _ er8
  refine lv_aload hx hb d_K_change_50 (lv_at hl 0 rfl) ?_
  refine gf_D_rows C9 hW br4_0 l_K_130 d_K_change_52 ?_
  refine lv_iload_n hx hb d_K_change_55 rfl (lv_at hl 4 rfl) ?_
  obtain ⟨g9, hf⟩ := rd_g hf
  refine al_rows C9 hW br4_0 rfl g9 d_K_change_56 ?_
  refine lv_astore (lv' := [(7, .ref (ad (39 + 8 * r4 + 2 * p3.toNatClampNeg))), (6, .ref (ad (37 + 8 * r4))), (0, .ref (ad 0)), (1, .int p1), (2, .int p2), (3, .int p3), (4, .int p4), (5, .int p5)]) hx hb d_K_change_57 hl (by decide) rfl (fun ls hl => ?_)
  refine lv_iload hx hb d_K_change_59 (lv_at hl 7 rfl) ?_
  refine lv_if_eq (tgt := 81) hx hb d_K_change_61 (by decide) (fun c10 => ?_) (fun c10 => ?_)
  · have hf := rd_t hf c10
    refine lv_aload hx hb d_K_change_81 (lv_at hl 0 rfl) ?_
    refine lv_iload hx hb d_K_change_83 (lv_at hl 6 rfl) ?_
    refine lv_iload_n hx hb d_K_change_85 rfl (lv_at hl 5 rfl) ?_
    obtain ⟨z12, hz12, hf⟩ := rd_k_el hf
    refine rd_sel z12 (fun z => F0 m 94 ls (.int z :: [.int p4, .ref (ad (39 + 8 * r4 + 2 * p3.toNatClampNeg))])) hz12 (fun hJ => ?_) ?_
    · refine lv_if_ne (tgt := 93) hx hb d_K_change_86 (by decide) (fun c11 => ?_) (fun c11 => ?_)
      · have hJ := rd_self (g := (fun z => F0 m 94 ls (.int z :: [.int p4, .ref (ad (39 + 8 * r4 + 2 * p3.toNatClampNeg))]))) hJ c11
        refine lv_iconst (v := 0) hx hb d_K_change_93 (by decide) ?_
        exact hJ
      · have hJ := rd_selt (g := (fun z => F0 m 94 ls (.int z :: [.int p4, .ref (ad (39 + 8 * r4 + 2 * p3.toNatClampNeg))]))) hJ c11
        refine lv_iconst (v := 1) hx hb d_K_change_89 (by decide) ?_
        refine lv_goto (tgt := 94) hx hb d_K_change_90 (by decide) ?_
        exact hJ
    obtain ⟨or13, qr13, xr13, vr13⟩ := rd_b_run hf
    refine rd_callS (As := [.ref (ad (39 + 8 * r4 + 2 * p3.toNatClampNeg)), .int p4, .int z12]) (rest := []) rd_gd C9 hTh hW (c_K_requireTakeable hls r4 p3.toNatClampNeg p4 z12 br4_0 (rd_lt g9) qr13) kc_K_requireTakeable ki_K_requireTakeable l_K_143 rfl ⟨Nat.le_of_ble_eq_true rfl, Nat.le_of_ble_eq_true rfl⟩ ⟨Nat.le_of_ble_eq_true rfl, Nat.le_of_ble_eq_true rfl⟩ hl.1 rfl (Nat.le_of_ble_eq_true rfl) d_K_change_94 (fun E ce q9 H locs hex hW h1 h2 h3 => rd_out hnt hlk hW (xr13 E hex) h1 h2 h3 (by decide) (by decide)) (fun rr MM H locs hp hW => ?_)
    obtain ⟨r13, er13, rfl, rfl⟩ := hp
    have hf := vr13 _ er13
    refine lv_aload hx hb d_K_change_97 (lv_at hl 0 rfl) ?_
    refine lv_iload hx hb d_K_change_99 (lv_at hl 6 rfl) ?_
    obtain ⟨r14, qr14, hf⟩ := rd_bind hf
    refine rd_callV (As := [.int p4]) (rest := []) rd_gd C9 hTh hW (c_R_takeOff hls r4 p3.toNatClampNeg p4 br4_0 (rd_lt g9) qr14) kc_R_takeOff ki_R_takeOff ks_R_takeOff l_K_147 rfl (lt_R br4_0 (rd_lt g9)) (ce_R br4_0 (rd_lt g9)) rfl ⟨Nat.le_of_ble_eq_true rfl, Nat.le_of_ble_eq_true rfl⟩ ⟨Nat.le_of_ble_eq_true rfl, Nat.le_of_ble_eq_true rfl⟩ hl.1 rfl (Nat.le_of_ble_eq_true rfl) d_K_change_101 (fun E _ _ _ _ hex => hex.elim) (fun rr MM H locs hp hW => ?_)
    obtain ⟨rfl, rfl⟩ := hp
    refine lv_aload hx hb d_K_change_104 (lv_at hl 0 rfl) ?_
    refine gf_R_size C9 hW br4_0 (rd_lt g9) l_K_150 d_K_change_106 ?_
    obtain rfl := Option.some.inj hf
    exact rd_iret C9 hlk hret hW ⟨_, rfl, rfl, rfl⟩ (by decide) (by decide) d_K_change_109
  · have hf := rd_f hf c10
    refine lv_aload hx hb d_K_change_64 (lv_at hl 0 rfl) ?_
    refine lv_iload hx hb d_K_change_66 (lv_at hl 6 rfl) ?_
    obtain ⟨or15, qr15, xr15, vr15⟩ := rd_b_run hf
    refine rd_callS (As := [.ref (ad (39 + 8 * r4 + 2 * p3.toNatClampNeg)), .int p4]) (rest := []) rd_gd C9 hTh hW (c_K_requireAddable hls r4 p3.toNatClampNeg p4 br4_0 (rd_lt g9) qr15) kc_K_requireAddable ki_K_requireAddable l_K_134 rfl ⟨Nat.le_of_ble_eq_true rfl, Nat.le_of_ble_eq_true rfl⟩ ⟨Nat.le_of_ble_eq_true rfl, Nat.le_of_ble_eq_true rfl⟩ hl.1 rfl (Nat.le_of_ble_eq_true rfl) d_K_change_68 (fun E ce q9 H locs hex hW h1 h2 h3 => rd_out hnt hlk hW (xr15 E hex) h1 h2 h3 (by decide) (by decide)) (fun rr MM H locs hp hW => ?_)
    obtain ⟨r15, er15, rfl, rfl⟩ := hp
    have hf := vr15 _ er15
    refine lv_aload hx hb d_K_change_71 (lv_at hl 0 rfl) ?_
    refine lv_iload hx hb d_K_change_73 (lv_at hl 6 rfl) ?_
    obtain ⟨r16, qr16, hf⟩ := rd_bind hf
    refine rd_callV (As := [.int p4]) (rest := []) rd_gd C9 hTh hW (c_R_append hls r4 p3.toNatClampNeg p4 br4_0 (rd_lt g9) qr16) kc_R_append ki_R_append ks_R_append l_K_138 rfl (lt_R br4_0 (rd_lt g9)) (ce_R br4_0 (rd_lt g9)) rfl ⟨Nat.le_of_ble_eq_true rfl, Nat.le_of_ble_eq_true rfl⟩ ⟨Nat.le_of_ble_eq_true rfl, Nat.le_of_ble_eq_true rfl⟩ hl.1 rfl (Nat.le_of_ble_eq_true rfl) d_K_change_75 (fun E _ _ _ _ hex => hex.elim) (fun rr MM H locs hp hW => ?_)
    obtain ⟨rfl, rfl⟩ := hp
    refine lv_goto (tgt := 104) hx hb d_K_change_78 (by decide) ?_
    refine lv_aload hx hb d_K_change_104 (lv_at hl 0 rfl) ?_
    refine gf_R_size C9 hW br4_0 (rd_lt g9) l_K_150 d_K_change_106 ?_
    obtain rfl := Option.some.inj hf
    exact rd_iret C9 hlk hret hW ⟨_, rfl, rfl, rfl⟩ (by decide) (by decide) d_K_change_109
def f_K_lock (M : rd_M) (p1 : Int32) (p2 : Int32) (p3 : Int32) : Option (String ⊕ (Int32 × rd_M)) :=
  rd_b (f_K_requireRegistrar M p1) fun r1 =>
  rd_b (f_K_requireName M p2) fun r2 =>
  rd_b (f_K_requireRange M p3 0 31) fun r3 =>
  rd_b (f_K_domainThere M p2) fun r4 =>
  rd_b (f_K_requireOwner M ((M (37 + 8 * r4)).1 4) p1) fun r5 =>
  rd_b (f_K_requireState M r4 0) fun r6 =>
  rd_k (rd_iU M (37 + 8 * r4) 7 p3) fun M7 =>
  some (.inr ((M (37 + 8 * r4)).1 7, M7))
set_option maxRecDepth 100000 in
set_option maxHeartbeats 4000000 in
theorem c_K_lock {l : Launch} (hls : l.stackTraces = false) {D : va_G} {Ka : Nat → ClassId} {ad : Nat → Nat} {M : rd_M} (p1 : Int32) (p2 : Int32) (p3 : Int32)  {o : String ⊕ (Int32 × rd_M)} (hf : f_K_lock M p1 p2 p3 = some o) :
    rd_Met l y_K_lock b_K_lock 6 (some .int) (8, 132, 6, 36) rd_T rd_ss D rd_cl (rd_ty Ka) (dk_L Ka) ad M [.ref (ad 0), .int p1, .int p2, .int p3] (fun r M1 => ∃ v, o = .inr v ∧ r = some (.int v.1) ∧ v.2 = M1) (fun E => o = .inl E) := by
  refine rd_body (by decide) (Nat.le_of_ble_eq_true rfl) ?_
  intro p e s m below meth c C9 hlk hret hnt hTh hW ls hl
  have hx := C9.1.1
  have hb := C9.1.2.1
  have hl : lv_has ls 6 [(0, .ref (ad 0)), (1, .int p1), (2, .int p2), (3, .int p3)] := hl
  unfold f_K_lock at hf
  refine lv_iload_n hx hb d_K_lock_0 rfl (lv_at hl 1 rfl) ?_
  obtain ⟨or1, qr1, xr1, vr1⟩ := rd_b_run hf
  refine rd_callS (As := [.int p1]) (rest := []) rd_gd C9 hTh hW (c_K_requireRegistrar hls p1 qr1) kc_K_requireRegistrar ki_K_requireRegistrar l_K_46 rfl ⟨Nat.le_of_ble_eq_true rfl, Nat.le_of_ble_eq_true rfl⟩ ⟨Nat.le_of_ble_eq_true rfl, Nat.le_of_ble_eq_true rfl⟩ hl.1 rfl (Nat.le_of_ble_eq_true rfl) d_K_lock_1 (fun E ce q9 H locs hex hW h1 h2 h3 => rd_out hnt hlk hW (xr1 E hex) h1 h2 h3 (by decide) (by decide)) (fun rr MM H locs hp hW => ?_)
  obtain ⟨r1, er1, rfl, rfl⟩ := hp
  have hf := vr1 _ er1
  refine lv_iload_n hx hb d_K_lock_4 rfl (lv_at hl 2 rfl) ?_
  obtain ⟨or2, qr2, xr2, vr2⟩ := rd_b_run hf
  refine rd_callS (As := [.int p2]) (rest := []) rd_gd C9 hTh hW (c_K_requireName hls p2 qr2) kc_K_requireName ki_K_requireName l_K_102 rfl ⟨Nat.le_of_ble_eq_true rfl, Nat.le_of_ble_eq_true rfl⟩ ⟨Nat.le_of_ble_eq_true rfl, Nat.le_of_ble_eq_true rfl⟩ hl.1 rfl (Nat.le_of_ble_eq_true rfl) d_K_lock_5 (fun E ce q9 H locs hex hW h1 h2 h3 => rd_out hnt hlk hW (xr2 E hex) h1 h2 h3 (by decide) (by decide)) (fun rr MM H locs hp hW => ?_)
  obtain ⟨r2, er2, rfl, rfl⟩ := hp
  have hf := vr2 _ er2
  refine lv_iload_n hx hb d_K_lock_8 rfl (lv_at hl 3 rfl) ?_
  refine lv_iconst (v := 0) hx hb d_K_lock_9 (by decide) ?_
  refine lv_bipush (v := 31) hx hb d_K_lock_10 (by decide) ?_
  obtain ⟨or3, qr3, xr3, vr3⟩ := rd_b_run hf
  refine rd_callS (As := [.int p3, .int 0, .int 31]) (rest := []) rd_gd C9 hTh hW (c_K_requireRange hls p3 0 31 qr3) kc_K_requireRange ki_K_requireRange l_K_38 rfl ⟨Nat.le_of_ble_eq_true rfl, Nat.le_of_ble_eq_true rfl⟩ ⟨Nat.le_of_ble_eq_true rfl, Nat.le_of_ble_eq_true rfl⟩ hl.1 rfl (Nat.le_of_ble_eq_true rfl) d_K_lock_12 (fun E ce q9 H locs hex hW h1 h2 h3 => rd_out hnt hlk hW (xr3 E hex) h1 h2 h3 (by decide) (by decide)) (fun rr MM H locs hp hW => ?_)
  obtain ⟨r3, er3, rfl, rfl⟩ := hp
  have hf := vr3 _ er3
  refine lv_aload_n hx hb d_K_lock_15 rfl (lv_at hl 0 rfl) ?_
  refine lv_iload_n hx hb d_K_lock_16 rfl (lv_at hl 2 rfl) ?_
  obtain ⟨or4, qr4, xr4, vr4⟩ := rd_b_run hf
  refine rd_callV (As := [.int p2]) (rest := []) rd_gd C9 hTh hW (c_K_domainThere hls p2 qr4) kc_K_domainThere ki_K_domainThere ks_K_domainThere l_K_65 rfl (lt_K) (ce_K) rfl ⟨Nat.le_of_ble_eq_true rfl, Nat.le_of_ble_eq_true rfl⟩ ⟨Nat.le_of_ble_eq_true rfl, Nat.le_of_ble_eq_true rfl⟩ hl.1 rfl (Nat.le_of_ble_eq_true rfl) d_K_lock_17 (fun E ce q9 H locs hex hW h1 h2 h3 => rd_out hnt hlk hW (xr4 E hex) h1 h2 h3 (by decide) (by decide)) (fun rr MM H locs hp hW => ?_)
  obtain ⟨r4, er4, rfl, rfl, br4_0⟩ := hp
  have hf := vr4 _ er4
  refine lv_astore (lv' := [(4, .ref (ad (37 + 8 * r4))), (0, .ref (ad 0)), (1, .int p1), (2, .int p2), (3, .int p3)]) hx hb d_K_lock_20 hl (by decide) rfl (fun ls hl => ?_)
  refine lv_aload hx hb d_K_lock_22 (lv_at hl 0 rfl) ?_
  refine gf_D_owner C9 hW br4_0 l_K_69 d_K_lock_24 ?_
  refine lv_iload_n hx hb d_K_lock_27 rfl (lv_at hl 2 rfl) ?_
  obtain ⟨or5, qr5, xr5, vr5⟩ := rd_b_run hf
  refine rd_callS (As := [.int ((M (37 + 8 * r4)).1 4), .int p1]) (rest := []) rd_gd C9 hTh hW (c_K_requireOwner hls ((M (37 + 8 * r4)).1 4) p1 qr5) kc_K_requireOwner ki_K_requireOwner l_K_72 rfl ⟨Nat.le_of_ble_eq_true rfl, Nat.le_of_ble_eq_true rfl⟩ ⟨Nat.le_of_ble_eq_true rfl, Nat.le_of_ble_eq_true rfl⟩ hl.1 rfl (Nat.le_of_ble_eq_true rfl) d_K_lock_28 (fun E ce q9 H locs hex hW h1 h2 h3 => rd_out hnt hlk hW (xr5 E hex) h1 h2 h3 (by decide) (by decide)) (fun rr MM H locs hp hW => ?_)
  obtain ⟨r5, er5, rfl, rfl⟩ := hp
  have hf := vr5 _ er5
  refine lv_aload hx hb d_K_lock_31 (lv_at hl 0 rfl) ?_
  refine lv_iconst (v := 0) hx hb d_K_lock_33 (by decide) ?_
  obtain ⟨or6, qr6, xr6, vr6⟩ := rd_b_run hf
  refine rd_callS (As := [.ref (ad (37 + 8 * r4)), .int 0]) (rest := []) rd_gd C9 hTh hW (c_K_requireState hls r4 0 br4_0 qr6) kc_K_requireState ki_K_requireState l_K_123 rfl ⟨Nat.le_of_ble_eq_true rfl, Nat.le_of_ble_eq_true rfl⟩ ⟨Nat.le_of_ble_eq_true rfl, Nat.le_of_ble_eq_true rfl⟩ hl.1 rfl (Nat.le_of_ble_eq_true rfl) d_K_lock_34 (fun E ce q9 H locs hex hW h1 h2 h3 => rd_out hnt hlk hW (xr6 E hex) h1 h2 h3 (by decide) (by decide)) (fun rr MM H locs hp hW => ?_)
  obtain ⟨r6, er6, rfl, rfl⟩ := hp
  have hf := vr6 _ er6
  refine lv_aload hx hb d_K_lock_37 (lv_at hl 0 rfl) ?_
  refine gf_D_locks C9 hW br4_0 l_K_153 d_K_lock_39 ?_
  refine lv_istore (lv' := [(5, .int ((M (37 + 8 * r4)).1 7)), (4, .ref (ad (37 + 8 * r4))), (0, .ref (ad 0)), (1, .int p1), (2, .int p2), (3, .int p3)]) hx hb d_K_lock_42 hl (by decide) rfl (fun ls hl => ?_)
  refine lv_aload hx hb d_K_lock_44 (lv_at hl 1 rfl) ?_
  refine lv_iload_n hx hb d_K_lock_46 rfl (lv_at hl 5 rfl) ?_
  refine pf_D_locks C9 hW br4_0 l_K_153 d_K_lock_47 (fun H locs hW => ?_)
  obtain ⟨M7, hM7, hf⟩ := rd_k_el hf
  rw [← hM7] at hW
  refine lv_iload hx hb d_K_lock_50 (lv_at hl 0 rfl) ?_
  obtain rfl := Option.some.inj hf
  exact rd_iret C9 hlk hret hW ⟨_, rfl, rfl, rfl⟩ (by decide) (by decide) d_K_lock_52
def f_K_requireNoTransfer (M : rd_M) (r0_0 : Nat) : Option (String ⊕ Unit) :=
  if ((M (37 + 8 * r0_0)).1 10) = (-1) then
    some (.inr ())
  else
    some (.inl "java/lang/IllegalStateException")
set_option maxRecDepth 100000 in
set_option maxHeartbeats 4000000 in
theorem c_K_requireNoTransfer {l : Launch} (hls : l.stackTraces = false) {D : va_G} {Ka : Nat → ClassId} {ad : Nat → Nat} {M : rd_M} (r0_0 : Nat) (h0_0 : r0_0 < 10) {o : String ⊕ Unit} (hf : f_K_requireNoTransfer M r0_0 = some o) :
    rd_Met l y_K_requireNoTransfer b_K_requireNoTransfer 1 none (6, 90, 1, 6) rd_T rd_ss D rd_cl (rd_ty Ka) (dk_L Ka) ad M [.ref (ad (37 + 8 * r0_0))] (fun r M1 => ∃ v, o = .inr v ∧ r = none ∧ M = M1) (fun E => o = .inl E) := by
  refine rd_body (by decide) (Nat.le_of_ble_eq_true rfl) ?_
  intro p e s m below meth c C9 hlk hret hnt hTh hW ls hl
  have hx := C9.1.1
  have hb := C9.1.2.1
  have hl : lv_has ls 1 [(0, .ref (ad (37 + 8 * r0_0)))] := hl
  unfold f_K_requireNoTransfer at hf
  refine lv_aload_n hx hb d_K_requireNoTransfer_0 rfl (lv_at hl 0 rfl) ?_
  refine gf_D_transferFor C9 hW h0_0 l_K_193 d_K_requireNoTransfer_1 ?_
  refine lv_iconst (v := (-1)) hx hb d_K_requireNoTransfer_4 (by decide) ?_
  refine lv_icmp_eq (tgt := 19) hx hb d_K_requireNoTransfer_5 (by decide) (fun c1 => ?_) (fun c1 => ?_)
  · have hf := rd_t hf c1
    obtain rfl := Option.some.inj hf
    exact rd_vret C9 hlk hret hW ⟨_, rfl, rfl, rfl⟩ (by decide) (by decide) d_K_requireNoTransfer_19
  · have hf := rd_f hf c1
    obtain rfl := Option.some.inj hf
    exact rd_throwW (text := "a transfer waits") (names := ["java/lang/RuntimeException", "java/lang/Exception"]) hls C9 hnt hlk hTh hW hl.1 rd_gd (by decide) (by decide) l_K_87 in_IllegalStateException (List.mem_of_getElem? (i := 14) rfl) ta_K_IllegalStateException d_K_requireNoTransfer_8 d_K_requireNoTransfer_11 d_K_requireNoTransfer_12 d_K_requireNoTransfer_15 d_K_requireNoTransfer_18 (Nat.le_of_ble_eq_true rfl) (Nat.le_of_ble_eq_true rfl) (Nat.le_of_ble_eq_true rfl) (Nat.le_of_ble_eq_true rfl) rfl (Nat.le_of_ble_eq_true rfl) (Nat.le_of_ble_eq_true rfl)
def f_K_renew (M : rd_M) (p1 : Int32) (p2 : Int32) (p3 : Int32) : Option (String ⊕ (Int32 × rd_M)) :=
  rd_b (f_K_requireRegistrar M p1) fun r1 =>
  rd_b (f_K_requireName M p2) fun r2 =>
  rd_b (f_K_requireRange M p3 1 3) fun r3 =>
  rd_b (f_K_domainThere M p2) fun r4 =>
  rd_b (f_K_requireOwner M ((M (37 + 8 * r4)).1 4) p1) fun r5 =>
  rd_b (f_K_requireState M r4 0) fun r6 =>
  rd_b (f_K_requireUnlocked M r4 8) fun r7 =>
  rd_b (f_K_requireNoTransfer M r4) fun r8 =>
  if (((M (37 + 8 * r4)).1 5) + (p3 * 10)) ≤ (((M 0).1 4) + 50) then
    rd_b (f_K_payFor M p1 1 p3) fun r10 =>
    rd_k (rd_iU r10.2 (37 + 8 * r4) 5 (((M (37 + 8 * r4)).1 5) + (p3 * 10))) fun M11 =>
    (f_D_setGrace M11 r4 1 r10.1 (((M11 0).1 4) + 3)).bind fun r12 =>
    some (.inr (((M (37 + 8 * r4)).1 5) + (p3 * 10), r12))
  else
    some (.inl "java/lang/IllegalStateException")
set_option maxRecDepth 100000 in
set_option maxHeartbeats 4000000 in
theorem c_K_renew {l : Launch} (hls : l.stackTraces = false) {D : va_G} {Ka : Nat → ClassId} {ad : Nat → Nat} {M : rd_M} (p1 : Int32) (p2 : Int32) (p3 : Int32)  {o : String ⊕ (Int32 × rd_M)} (hf : f_K_renew M p1 p2 p3 = some o) :
    rd_Met l y_K_renew b_K_renew 8 (some .int) (8, 138, 10, 60) rd_T rd_ss D rd_cl (rd_ty Ka) (dk_L Ka) ad M [.ref (ad 0), .int p1, .int p2, .int p3] (fun r M1 => ∃ v, o = .inr v ∧ r = some (.int v.1) ∧ v.2 = M1) (fun E => o = .inl E) := by
  refine rd_body (by decide) (Nat.le_of_ble_eq_true rfl) ?_
  intro p e s m below meth c C9 hlk hret hnt hTh hW ls hl
  have hx := C9.1.1
  have hb := C9.1.2.1
  have hl : lv_has ls 8 [(0, .ref (ad 0)), (1, .int p1), (2, .int p2), (3, .int p3)] := hl
  unfold f_K_renew at hf
  refine lv_iload_n hx hb d_K_renew_0 rfl (lv_at hl 1 rfl) ?_
  obtain ⟨or1, qr1, xr1, vr1⟩ := rd_b_run hf
  refine rd_callS (As := [.int p1]) (rest := []) rd_gd C9 hTh hW (c_K_requireRegistrar hls p1 qr1) kc_K_requireRegistrar ki_K_requireRegistrar l_K_46 rfl ⟨Nat.le_of_ble_eq_true rfl, Nat.le_of_ble_eq_true rfl⟩ ⟨Nat.le_of_ble_eq_true rfl, Nat.le_of_ble_eq_true rfl⟩ hl.1 rfl (Nat.le_of_ble_eq_true rfl) d_K_renew_1 (fun E ce q9 H locs hex hW h1 h2 h3 => rd_out hnt hlk hW (xr1 E hex) h1 h2 h3 (by decide) (by decide)) (fun rr MM H locs hp hW => ?_)
  obtain ⟨r1, er1, rfl, rfl⟩ := hp
  have hf := vr1 _ er1
  refine lv_iload_n hx hb d_K_renew_4 rfl (lv_at hl 2 rfl) ?_
  obtain ⟨or2, qr2, xr2, vr2⟩ := rd_b_run hf
  refine rd_callS (As := [.int p2]) (rest := []) rd_gd C9 hTh hW (c_K_requireName hls p2 qr2) kc_K_requireName ki_K_requireName l_K_102 rfl ⟨Nat.le_of_ble_eq_true rfl, Nat.le_of_ble_eq_true rfl⟩ ⟨Nat.le_of_ble_eq_true rfl, Nat.le_of_ble_eq_true rfl⟩ hl.1 rfl (Nat.le_of_ble_eq_true rfl) d_K_renew_5 (fun E ce q9 H locs hex hW h1 h2 h3 => rd_out hnt hlk hW (xr2 E hex) h1 h2 h3 (by decide) (by decide)) (fun rr MM H locs hp hW => ?_)
  obtain ⟨r2, er2, rfl, rfl⟩ := hp
  have hf := vr2 _ er2
  refine lv_iload_n hx hb d_K_renew_8 rfl (lv_at hl 3 rfl) ?_
  refine lv_iconst (v := 1) hx hb d_K_renew_9 (by decide) ?_
  refine lv_iconst (v := 3) hx hb d_K_renew_10 (by decide) ?_
  obtain ⟨or3, qr3, xr3, vr3⟩ := rd_b_run hf
  refine rd_callS (As := [.int p3, .int 1, .int 3]) (rest := []) rd_gd C9 hTh hW (c_K_requireRange hls p3 1 3 qr3) kc_K_requireRange ki_K_requireRange l_K_38 rfl ⟨Nat.le_of_ble_eq_true rfl, Nat.le_of_ble_eq_true rfl⟩ ⟨Nat.le_of_ble_eq_true rfl, Nat.le_of_ble_eq_true rfl⟩ hl.1 rfl (Nat.le_of_ble_eq_true rfl) d_K_renew_11 (fun E ce q9 H locs hex hW h1 h2 h3 => rd_out hnt hlk hW (xr3 E hex) h1 h2 h3 (by decide) (by decide)) (fun rr MM H locs hp hW => ?_)
  obtain ⟨r3, er3, rfl, rfl⟩ := hp
  have hf := vr3 _ er3
  refine lv_aload_n hx hb d_K_renew_14 rfl (lv_at hl 0 rfl) ?_
  refine lv_iload_n hx hb d_K_renew_15 rfl (lv_at hl 2 rfl) ?_
  obtain ⟨or4, qr4, xr4, vr4⟩ := rd_b_run hf
  refine rd_callV (As := [.int p2]) (rest := []) rd_gd C9 hTh hW (c_K_domainThere hls p2 qr4) kc_K_domainThere ki_K_domainThere ks_K_domainThere l_K_65 rfl (lt_K) (ce_K) rfl ⟨Nat.le_of_ble_eq_true rfl, Nat.le_of_ble_eq_true rfl⟩ ⟨Nat.le_of_ble_eq_true rfl, Nat.le_of_ble_eq_true rfl⟩ hl.1 rfl (Nat.le_of_ble_eq_true rfl) d_K_renew_16 (fun E ce q9 H locs hex hW h1 h2 h3 => rd_out hnt hlk hW (xr4 E hex) h1 h2 h3 (by decide) (by decide)) (fun rr MM H locs hp hW => ?_)
  obtain ⟨r4, er4, rfl, rfl, br4_0⟩ := hp
  have hf := vr4 _ er4
  refine lv_astore (lv' := [(4, .ref (ad (37 + 8 * r4))), (0, .ref (ad 0)), (1, .int p1), (2, .int p2), (3, .int p3)]) hx hb d_K_renew_19 hl (by decide) rfl (fun ls hl => ?_)
  refine lv_aload hx hb d_K_renew_21 (lv_at hl 0 rfl) ?_
  refine gf_D_owner C9 hW br4_0 l_K_69 d_K_renew_23 ?_
  refine lv_iload_n hx hb d_K_renew_26 rfl (lv_at hl 2 rfl) ?_
  obtain ⟨or5, qr5, xr5, vr5⟩ := rd_b_run hf
  refine rd_callS (As := [.int ((M (37 + 8 * r4)).1 4), .int p1]) (rest := []) rd_gd C9 hTh hW (c_K_requireOwner hls ((M (37 + 8 * r4)).1 4) p1 qr5) kc_K_requireOwner ki_K_requireOwner l_K_72 rfl ⟨Nat.le_of_ble_eq_true rfl, Nat.le_of_ble_eq_true rfl⟩ ⟨Nat.le_of_ble_eq_true rfl, Nat.le_of_ble_eq_true rfl⟩ hl.1 rfl (Nat.le_of_ble_eq_true rfl) d_K_renew_27 (fun E ce q9 H locs hex hW h1 h2 h3 => rd_out hnt hlk hW (xr5 E hex) h1 h2 h3 (by decide) (by decide)) (fun rr MM H locs hp hW => ?_)
  obtain ⟨r5, er5, rfl, rfl⟩ := hp
  have hf := vr5 _ er5
  refine lv_aload hx hb d_K_renew_30 (lv_at hl 0 rfl) ?_
  refine lv_iconst (v := 0) hx hb d_K_renew_32 (by decide) ?_
  obtain ⟨or6, qr6, xr6, vr6⟩ := rd_b_run hf
  refine rd_callS (As := [.ref (ad (37 + 8 * r4)), .int 0]) (rest := []) rd_gd C9 hTh hW (c_K_requireState hls r4 0 br4_0 qr6) kc_K_requireState ki_K_requireState l_K_123 rfl ⟨Nat.le_of_ble_eq_true rfl, Nat.le_of_ble_eq_true rfl⟩ ⟨Nat.le_of_ble_eq_true rfl, Nat.le_of_ble_eq_true rfl⟩ hl.1 rfl (Nat.le_of_ble_eq_true rfl) d_K_renew_33 (fun E ce q9 H locs hex hW h1 h2 h3 => rd_out hnt hlk hW (xr6 E hex) h1 h2 h3 (by decide) (by decide)) (fun rr MM H locs hp hW => ?_)
  obtain ⟨r6, er6, rfl, rfl⟩ := hp
  have hf := vr6 _ er6
  refine lv_aload hx hb d_K_renew_36 (lv_at hl 0 rfl) ?_
  refine lv_bipush (v := 8) hx hb d_K_renew_38 (by decide) ?_
  obtain ⟨or7, qr7, xr7, vr7⟩ := rd_b_run hf
  refine rd_callS (As := [.ref (ad (37 + 8 * r4)), .int 8]) (rest := []) rd_gd C9 hTh hW (c_K_requireUnlocked hls r4 8 br4_0 qr7) kc_K_requireUnlocked ki_K_requireUnlocked l_K_127 rfl ⟨Nat.le_of_ble_eq_true rfl, Nat.le_of_ble_eq_true rfl⟩ ⟨Nat.le_of_ble_eq_true rfl, Nat.le_of_ble_eq_true rfl⟩ hl.1 rfl (Nat.le_of_ble_eq_true rfl) d_K_renew_40 (fun E ce q9 H locs hex hW h1 h2 h3 => rd_out hnt hlk hW (xr7 E hex) h1 h2 h3 (by decide) (by decide)) (fun rr MM H locs hp hW => ?_)
  obtain ⟨r7, er7, rfl, rfl⟩ := hp
  have hf := vr7 _ er7
  refine lv_aload hx hb d_K_renew_43 (lv_at hl 0 rfl) ?_
  obtain ⟨or8, qr8, xr8, vr8⟩ := rd_b_run hf
  refine rd_callS (As := [.ref (ad (37 + 8 * r4))]) (rest := []) rd_gd C9 hTh hW (c_K_requireNoTransfer hls r4 br4_0 qr8) kc_K_requireNoTransfer ki_K_requireNoTransfer l_K_156 rfl ⟨Nat.le_of_ble_eq_true rfl, Nat.le_of_ble_eq_true rfl⟩ ⟨Nat.le_of_ble_eq_true rfl, Nat.le_of_ble_eq_true rfl⟩ hl.1 rfl (Nat.le_of_ble_eq_true rfl) d_K_renew_45 (fun E ce q9 H locs hex hW h1 h2 h3 => rd_out hnt hlk hW (xr8 E hex) h1 h2 h3 (by decide) (by decide)) (fun rr MM H locs hp hW => ?_)
  obtain ⟨r8, er8, rfl, rfl⟩ := hp
  have hf := vr8 _ er8
  refine lv_aload hx hb d_K_renew_48 (lv_at hl 0 rfl) ?_
  refine gf_D_expiry C9 hW br4_0 l_K_120 d_K_renew_50 ?_
  refine lv_iload_n hx hb d_K_renew_53 rfl (lv_at hl 4 rfl) ?_
  refine lv_bipush (v := 10) hx hb d_K_renew_54 (by decide) ?_
  refine lv_imul hx hb d_K_renew_56 ?_
  refine lv_iadd hx hb d_K_renew_57 ?_
  refine lv_istore (lv' := [(5, .int (((M (37 + 8 * r4)).1 5) + (p3 * 10))), (4, .ref (ad (37 + 8 * r4))), (0, .ref (ad 0)), (1, .int p1), (2, .int p2), (3, .int p3)]) hx hb d_K_renew_58 hl (by decide) rfl (fun ls hl => ?_)
  refine lv_iload hx hb d_K_renew_60 (lv_at hl 0 rfl) ?_
  refine lv_aload_n hx hb d_K_renew_62 rfl (lv_at hl 2 rfl) ?_
  refine gf_K_today C9 hW l_K_34 d_K_renew_63 ?_
  refine lv_bipush (v := 50) hx hb d_K_renew_66 (by decide) ?_
  refine lv_iadd hx hb d_K_renew_68 ?_
  refine lv_icmp_le (tgt := 82) hx hb d_K_renew_69 (by decide) (fun c9 => ?_) (fun c9 => ?_)
  · have hf := rd_t hf c9
    refine lv_aload_n hx hb d_K_renew_82 rfl (lv_at hl 2 rfl) ?_
    refine lv_iload_n hx hb d_K_renew_83 rfl (lv_at hl 3 rfl) ?_
    refine lv_iconst (v := 1) hx hb d_K_renew_84 (by decide) ?_
    refine lv_iload_n hx hb d_K_renew_85 rfl (lv_at hl 5 rfl) ?_
    obtain ⟨or10, qr10, xr10, vr10⟩ := rd_b_run hf
    refine rd_callV (As := [.int p1, .int 1, .int p3]) (rest := []) rd_gd C9 hTh hW (c_K_payFor hls p1 1 p3 qr10) kc_K_payFor ki_K_payFor ks_K_payFor l_K_108 rfl (lt_K) (ce_K) rfl ⟨Nat.le_of_ble_eq_true rfl, Nat.le_of_ble_eq_true rfl⟩ ⟨Nat.le_of_ble_eq_true rfl, Nat.le_of_ble_eq_true rfl⟩ hl.1 rfl (Nat.le_of_ble_eq_true rfl) d_K_renew_86 (fun E ce q9 H locs hex hW h1 h2 h3 => rd_out hnt hlk hW (xr10 E hex) h1 h2 h3 (by decide) (by decide)) (fun rr MM H locs hp hW => ?_)
    obtain ⟨r10, er10, rfl, rfl⟩ := hp
    have hf := vr10 _ er10
    refine lv_dstore (lv' := [(6, .double r10.1), (5, .int (((M (37 + 8 * r4)).1 5) + (p3 * 10))), (4, .ref (ad (37 + 8 * r4))), (0, .ref (ad 0)), (1, .int p1), (2, .int p2), (3, .int p3)]) hx hb d_K_renew_89 hl (by decide) rfl (fun ls hl => ?_)
    refine lv_aload hx hb d_K_renew_91 (lv_at hl 2 rfl) ?_
    refine lv_iload hx hb d_K_renew_93 (lv_at hl 1 rfl) ?_
    refine pf_D_expiry C9 hW br4_0 l_K_120 d_K_renew_95 (fun H locs hW => ?_)
    obtain ⟨M11, hM11, hf⟩ := rd_k_el hf
    rw [← hM11] at hW
    refine lv_aload hx hb d_K_renew_98 (lv_at hl 2 rfl) ?_
    refine lv_iconst (v := 1) hx hb d_K_renew_100 (by decide) ?_
    refine lv_dload hx hb d_K_renew_101 (lv_at hl 0 rfl) ?_
    refine lv_aload_n hx hb d_K_renew_103 rfl (lv_at hl 3 rfl) ?_
    refine gf_K_today C9 hW l_K_34 d_K_renew_104 ?_
    refine lv_iconst (v := 3) hx hb d_K_renew_107 (by decide) ?_
    refine lv_iadd hx hb d_K_renew_108 ?_
    obtain ⟨r12, qr12, hf⟩ := rd_bind hf
    refine rd_callV (As := [.int 1, .double r10.1, .int (((M11 0).1 4) + 3)]) (rest := []) rd_gd C9 hTh hW (c_D_setGrace hls r4 1 r10.1 (((M11 0).1 4) + 3) br4_0 qr12) kc_D_setGrace ki_D_setGrace ks_D_setGrace l_K_116 rfl (lt_D br4_0) (ce_D br4_0) rfl ⟨Nat.le_of_ble_eq_true rfl, Nat.le_of_ble_eq_true rfl⟩ ⟨Nat.le_of_ble_eq_true rfl, Nat.le_of_ble_eq_true rfl⟩ hl.1 rfl (Nat.le_of_ble_eq_true rfl) d_K_renew_109 (fun E _ _ _ _ hex => hex.elim) (fun rr MM H locs hp hW => ?_)
    obtain ⟨rfl, rfl⟩ := hp
    refine lv_iload hx hb d_K_renew_112 (lv_at hl 1 rfl) ?_
    obtain rfl := Option.some.inj hf
    exact rd_iret C9 hlk hret hW ⟨_, rfl, rfl, rfl⟩ (by decide) (by decide) d_K_renew_114
  · have hf := rd_f hf c9
    obtain rfl := Option.some.inj hf
    exact rd_throw (text := "the expiry would lie too far ahead") (names := ["java/lang/RuntimeException", "java/lang/Exception"]) hls C9 hnt hlk hTh hW hl.1 rd_gd (by decide) (by decide) l_K_87 in_IllegalStateException (List.mem_of_getElem? (i := 15) rfl) ta_K_IllegalStateException d_K_renew_72 d_K_renew_75 d_K_renew_76 d_K_renew_78 d_K_renew_81 (Nat.le_of_ble_eq_true rfl) (Nat.le_of_ble_eq_true rfl) (Nat.le_of_ble_eq_true rfl) (Nat.le_of_ble_eq_true rfl) rfl (Nat.le_of_ble_eq_true rfl) (Nat.le_of_ble_eq_true rfl)
def f_S_liesUnder (M : rd_M) (r0_0 : Nat) (p1 : Int32) (p2 : Int32) : Option (Int32) :=
  (f_S_has M r0_0 p1).bind fun r1 =>
  if r1 = 0 then
    some 0
  else
    if rd_in p1 8 then
    rd_k (if ((M (18 + 10 * r0_0 + p1.toNatClampNeg)).1 2) = p2 then 1 else 0 : Int32) fun z5 =>
    some z5
    else none
set_option maxRecDepth 100000 in
set_option maxHeartbeats 4000000 in
theorem c_S_liesUnder {l : Launch} (hls : l.stackTraces = false) {D : va_G} {Ka : Nat → ClassId} {ad : Nat → Nat} {M : rd_M} (r0_0 : Nat) (p1 : Int32) (p2 : Int32) (h0_0 : r0_0 < 2) {o : Int32} (hf : f_S_liesUnder M r0_0 p1 p2 = some o) :
    rd_Met l y_S_liesUnder b_S_liesUnder 3 (some .boolean) (1, 21, 0, 0) rd_T rd_ss D rd_cl (rd_ty Ka) (dk_L Ka) ad M [.ref (ad (16 + 10 * r0_0)), .int p1, .int p2] (fun r M1 => r = some (.int o) ∧ M = M1) (fun _ => False) := by
  refine rd_body (by decide) (Nat.le_of_ble_eq_true rfl) ?_
  intro p e s m below meth c C9 hlk hret hnt hTh hW ls hl
  have hx := C9.1.1
  have hb := C9.1.2.1
  have hl : lv_has ls 3 [(0, .ref (ad (16 + 10 * r0_0))), (1, .int p1), (2, .int p2)] := hl
  unfold f_S_liesUnder at hf
  refine lv_aload_n hx hb d_S_liesUnder_0 rfl (lv_at hl 0 rfl) ?_
  refine lv_iload_n hx hb d_S_liesUnder_1 rfl (lv_at hl 1 rfl) ?_
  obtain ⟨r1, qr1, hf⟩ := rd_bind hf
  refine rd_callV (As := [.int p1]) (rest := []) rd_gd C9 hTh hW (c_S_has hls r0_0 p1 h0_0 qr1) kc_S_has ki_S_has ks_S_has l_S_35 rfl (lt_S h0_0) (ce_S h0_0) rfl ⟨Nat.le_of_ble_eq_true rfl, Nat.le_of_ble_eq_true rfl⟩ ⟨Nat.le_of_ble_eq_true rfl, Nat.le_of_ble_eq_true rfl⟩ hl.1 rfl (Nat.le_of_ble_eq_true rfl) d_S_liesUnder_2 (fun E _ _ _ _ hex => hex.elim) (fun rr MM H locs hp hW => ?_)
  obtain ⟨rfl, rfl⟩ := hp
  refine lv_if_eq (tgt := 25) hx hb d_S_liesUnder_5 (by decide) (fun c2 => ?_) (fun c2 => ?_)
  · have hf := rd_t hf c2
    refine lv_iconst (v := 0) hx hb d_S_liesUnder_25 (by decide) ?_
    obtain rfl := Option.some.inj hf
    exact rd_zret C9 hlk hret hW (Or.inl rfl) ⟨rfl, rfl⟩ (by decide) (by decide) d_S_liesUnder_26
  · have hf := rd_f hf c2
    refine lv_aload_n hx hb d_S_liesUnder_8 rfl (lv_at hl 0 rfl) ?_
    refine gf_S_things C9 hW h0_0 l_S_11 d_S_liesUnder_9 ?_
    refine lv_iload_n hx hb d_S_liesUnder_12 rfl (lv_at hl 1 rfl) ?_
    obtain ⟨g3, hf⟩ := rd_g hf
    refine al_things C9 hW h0_0 rfl g3 d_S_liesUnder_13 ?_
    refine gf_T_under C9 hW h0_0 (rd_lt g3) l_S_29 d_S_liesUnder_14 ?_
    refine lv_iload_n hx hb d_S_liesUnder_17 rfl (lv_at hl 2 rfl) ?_
    obtain ⟨z5, hz5, hf⟩ := rd_k_el hf
    refine rd_sel z5 (fun z => F0 m 26 ls (.int z :: [])) hz5 (fun hJ => ?_) ?_
    · refine lv_icmp_ne (tgt := 25) hx hb d_S_liesUnder_18 (by decide) (fun c4 => ?_) (fun c4 => ?_)
      · have hJ := rd_self (g := (fun z => F0 m 26 ls (.int z :: []))) hJ c4
        refine lv_iconst (v := 0) hx hb d_S_liesUnder_25 (by decide) ?_
        exact hJ
      · have hJ := rd_selt (g := (fun z => F0 m 26 ls (.int z :: []))) hJ c4
        refine lv_iconst (v := 1) hx hb d_S_liesUnder_21 (by decide) ?_
        refine lv_goto (tgt := 26) hx hb d_S_liesUnder_22 (by decide) ?_
        exact hJ
    have hb9 : z5 = 0 ∨ z5 = 1 := by rw [hz5]; split <;> simp
    obtain rfl := Option.some.inj hf
    exact rd_zret C9 hlk hret hW hb9 ⟨rfl, rfl⟩ (by decide) (by decide) d_S_liesUnder_26
