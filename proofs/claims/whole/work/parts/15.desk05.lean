def f_K_domain (M : rd_M) (p1 : Int32) (p2 : Int32) : Option (String ⊕ Int32) :=
  rd_b (f_K_requireName M p1) fun r1 =>
  rd_b (f_K_requireRange M p2 0 13) fun r2 =>
  rd_b (f_K_domainThere M p1) fun r3 =>
  if p2 = 0 then
    some (.inr ((M (37 + 8 * r3)).1 4))
  else if p2 = 1 then
    some (.inr ((M (37 + 8 * r3)).1 5))
  else if p2 = 2 then
    some (.inr ((M (37 + 8 * r3)).1 7))
  else if p2 = 3 then
    some (.inr ((M (37 + 8 * r3)).1 8))
  else if p2 = 4 then
    some (.inr ((M (39 + 8 * r3 + 2 * 0)).1 1))
  else if p2 = 5 then
    some (.inr ((M (39 + 8 * r3 + 2 * 1)).1 1))
  else if p2 = 6 then
    some (.inr ((M (37 + 8 * r3)).1 10))
  else if p2 = 7 then
    (f_D_gracesOn M r3 ((M 0).1 4)).bind fun r12 =>
    some (.inr r12)
  else if p2 = 8 then
    (f_R_at M r3 0 (p2 - 8)).bind fun r14 =>
    some (.inr r14)
  else if p2 = 9 then
    (f_R_at M r3 0 (p2 - 8)).bind fun r16 =>
    some (.inr r16)
  else if p2 = 10 then
    (f_R_at M r3 0 (p2 - 8)).bind fun r18 =>
    some (.inr r18)
  else
    (f_R_at M r3 1 (p2 - 11)).bind fun r19 =>
    some (.inr r19)
set_option maxRecDepth 100000 in
set_option maxHeartbeats 4000000 in
theorem c_K_domain {l : Launch} (hls : l.stackTraces = false) {D : va_G} {Ka : Nat → ClassId} {ad : Nat → Nat} {M : rd_M} (p1 : Int32) (p2 : Int32)  {o : String ⊕ Int32} (hf : f_K_domain M p1 p2 = some o) :
    rd_Met l y_K_domain b_K_domain 4 (some .int) (8, 132, 3, 18) rd_T rd_ss D rd_cl (rd_ty Ka) (dk_L Ka) ad M [.ref (ad 0), .int p1, .int p2] (fun r M1 => ∃ v, o = .inr v ∧ r = some (.int v) ∧ M = M1) (fun E => o = .inl E) := by
  refine rd_body (by decide) (Nat.le_of_ble_eq_true rfl) ?_
  intro p e s m below meth c C9 hlk hret hnt hTh hW ls hl
  have hx := C9.1.1
  have hb := C9.1.2.1
  have hl : lv_has ls 4 [(0, .ref (ad 0)), (1, .int p1), (2, .int p2)] := hl
  unfold f_K_domain at hf
  refine lv_iload_n hx hb d_K_domain_0 rfl (lv_at hl 1 rfl) ?_
  obtain ⟨or1, qr1, xr1, vr1⟩ := rd_b_run hf
  refine rd_callS (As := [.int p1]) (rest := []) rd_gd C9 hTh hW (c_K_requireName hls p1 qr1) kc_K_requireName ki_K_requireName l_K_102 rfl ⟨Nat.le_of_ble_eq_true rfl, Nat.le_of_ble_eq_true rfl⟩ ⟨Nat.le_of_ble_eq_true rfl, Nat.le_of_ble_eq_true rfl⟩ hl.1 rfl (Nat.le_of_ble_eq_true rfl) d_K_domain_1 (fun E ce q9 H locs hex hW h1 h2 h3 => rd_out hnt hlk hW (xr1 E hex) h1 h2 h3 (by decide) (by decide)) (fun rr MM H locs hp hW => ?_)
  obtain ⟨r1, er1, rfl, rfl⟩ := hp
  have hf := vr1 _ er1
  refine lv_iload_n hx hb d_K_domain_4 rfl (lv_at hl 2 rfl) ?_
  refine lv_iconst (v := 0) hx hb d_K_domain_5 (by decide) ?_
  refine lv_bipush (v := 13) hx hb d_K_domain_6 (by decide) ?_
  obtain ⟨or2, qr2, xr2, vr2⟩ := rd_b_run hf
  refine rd_callS (As := [.int p2, .int 0, .int 13]) (rest := []) rd_gd C9 hTh hW (c_K_requireRange hls p2 0 13 qr2) kc_K_requireRange ki_K_requireRange l_K_38 rfl ⟨Nat.le_of_ble_eq_true rfl, Nat.le_of_ble_eq_true rfl⟩ ⟨Nat.le_of_ble_eq_true rfl, Nat.le_of_ble_eq_true rfl⟩ hl.1 rfl (Nat.le_of_ble_eq_true rfl) d_K_domain_8 (fun E ce q9 H locs hex hW h1 h2 h3 => rd_out hnt hlk hW (xr2 E hex) h1 h2 h3 (by decide) (by decide)) (fun rr MM H locs hp hW => ?_)
  obtain ⟨r2, er2, rfl, rfl⟩ := hp
  have hf := vr2 _ er2
  refine lv_aload_n hx hb d_K_domain_11 rfl (lv_at hl 0 rfl) ?_
  refine lv_iload_n hx hb d_K_domain_12 rfl (lv_at hl 1 rfl) ?_
  obtain ⟨or3, qr3, xr3, vr3⟩ := rd_b_run hf
  refine rd_callV (As := [.int p1]) (rest := []) rd_gd C9 hTh hW (c_K_domainThere hls p1 qr3) kc_K_domainThere ki_K_domainThere ks_K_domainThere l_K_65 rfl (lt_K) (ce_K) rfl ⟨Nat.le_of_ble_eq_true rfl, Nat.le_of_ble_eq_true rfl⟩ ⟨Nat.le_of_ble_eq_true rfl, Nat.le_of_ble_eq_true rfl⟩ hl.1 rfl (Nat.le_of_ble_eq_true rfl) d_K_domain_13 (fun E ce q9 H locs hex hW h1 h2 h3 => rd_out hnt hlk hW (xr3 E hex) h1 h2 h3 (by decide) (by decide)) (fun rr MM H locs hp hW => ?_)
  obtain ⟨r3, er3, rfl, rfl, br3_0⟩ := hp
  have hf := vr3 _ er3
  refine lv_astore_n (lv' := [(3, .ref (ad (37 + 8 * r3))), (0, .ref (ad 0)), (1, .int p1), (2, .int p2)]) hx hb d_K_domain_16 rfl hl (by decide) rfl (fun ls hl => ?_)
  refine lv_iload_n hx hb d_K_domain_17 rfl (lv_at hl 3 rfl) ?_
  by_cases c4 : p2 = 0
  · have hf := rd_t hf c4
    refine lv_tableIn (off := 58) (tgt := 76) hx hb d_K_domain_18 (by rw [c4]; decide) (by rw [c4]; decide) (by rw [c4]; rfl) (by decide) ?_
    refine lv_aload_n hx hb d_K_domain_76 rfl (lv_at hl 0 rfl) ?_
    refine gf_D_owner C9 hW br3_0 l_K_69 d_K_domain_77 ?_
    obtain rfl := Option.some.inj hf
    exact rd_iret C9 hlk hret hW ⟨_, rfl, rfl, rfl⟩ (by decide) (by decide) d_K_domain_80
  have hf := rd_f hf c4
  by_cases c5 : p2 = 1
  · have hf := rd_t hf c5
    refine lv_tableIn (off := 63) (tgt := 81) hx hb d_K_domain_18 (by rw [c5]; decide) (by rw [c5]; decide) (by rw [c5]; rfl) (by decide) ?_
    refine lv_aload_n hx hb d_K_domain_81 rfl (lv_at hl 0 rfl) ?_
    refine gf_D_expiry C9 hW br3_0 l_K_120 d_K_domain_82 ?_
    obtain rfl := Option.some.inj hf
    exact rd_iret C9 hlk hret hW ⟨_, rfl, rfl, rfl⟩ (by decide) (by decide) d_K_domain_85
  have hf := rd_f hf c5
  by_cases c6 : p2 = 2
  · have hf := rd_t hf c6
    refine lv_tableIn (off := 68) (tgt := 86) hx hb d_K_domain_18 (by rw [c6]; decide) (by rw [c6]; decide) (by rw [c6]; rfl) (by decide) ?_
    refine lv_aload_n hx hb d_K_domain_86 rfl (lv_at hl 0 rfl) ?_
    refine gf_D_locks C9 hW br3_0 l_K_153 d_K_domain_87 ?_
    obtain rfl := Option.some.inj hf
    exact rd_iret C9 hlk hret hW ⟨_, rfl, rfl, rfl⟩ (by decide) (by decide) d_K_domain_90
  have hf := rd_f hf c6
  by_cases c7 : p2 = 3
  · have hf := rd_t hf c7
    refine lv_tableIn (off := 73) (tgt := 91) hx hb d_K_domain_18 (by rw [c7]; decide) (by rw [c7]; decide) (by rw [c7]; rfl) (by decide) ?_
    refine lv_aload_n hx hb d_K_domain_91 rfl (lv_at hl 0 rfl) ?_
    refine gf_D_state C9 hW br3_0 l_K_242 d_K_domain_92 ?_
    obtain rfl := Option.some.inj hf
    exact rd_iret C9 hlk hret hW ⟨_, rfl, rfl, rfl⟩ (by decide) (by decide) d_K_domain_95
  have hf := rd_f hf c7
  by_cases c8 : p2 = 4
  · have hf := rd_t hf c8
    refine lv_tableIn (off := 78) (tgt := 96) hx hb d_K_domain_18 (by rw [c8]; decide) (by rw [c8]; decide) (by rw [c8]; rfl) (by decide) ?_
    refine lv_aload_n hx hb d_K_domain_96 rfl (lv_at hl 0 rfl) ?_
    refine gf_D_rows C9 hW br3_0 l_K_130 d_K_domain_97 ?_
    refine lv_iconst (v := 0) hx hb d_K_domain_100 (by decide) ?_
    refine al_rows C9 hW br3_0 (i := 0) (by decide) (show rd_in 0 2 by decide) d_K_domain_101 ?_
    refine gf_R_size C9 hW br3_0 (by decide) l_K_150 d_K_domain_102 ?_
    obtain rfl := Option.some.inj hf
    exact rd_iret C9 hlk hret hW ⟨_, rfl, rfl, rfl⟩ (by decide) (by decide) d_K_domain_105
  have hf := rd_f hf c8
  by_cases c9 : p2 = 5
  · have hf := rd_t hf c9
    refine lv_tableIn (off := 88) (tgt := 106) hx hb d_K_domain_18 (by rw [c9]; decide) (by rw [c9]; decide) (by rw [c9]; rfl) (by decide) ?_
    refine lv_aload_n hx hb d_K_domain_106 rfl (lv_at hl 0 rfl) ?_
    refine gf_D_rows C9 hW br3_0 l_K_130 d_K_domain_107 ?_
    refine lv_iconst (v := 1) hx hb d_K_domain_110 (by decide) ?_
    refine al_rows C9 hW br3_0 (i := 1) (by decide) (show rd_in 1 2 by decide) d_K_domain_111 ?_
    refine gf_R_size C9 hW br3_0 (by decide) l_K_150 d_K_domain_112 ?_
    obtain rfl := Option.some.inj hf
    exact rd_iret C9 hlk hret hW ⟨_, rfl, rfl, rfl⟩ (by decide) (by decide) d_K_domain_115
  have hf := rd_f hf c9
  by_cases c10 : p2 = 6
  · have hf := rd_t hf c10
    refine lv_tableIn (off := 98) (tgt := 116) hx hb d_K_domain_18 (by rw [c10]; decide) (by rw [c10]; decide) (by rw [c10]; rfl) (by decide) ?_
    refine lv_aload_n hx hb d_K_domain_116 rfl (lv_at hl 0 rfl) ?_
    refine gf_D_transferFor C9 hW br3_0 l_K_193 d_K_domain_117 ?_
    obtain rfl := Option.some.inj hf
    exact rd_iret C9 hlk hret hW ⟨_, rfl, rfl, rfl⟩ (by decide) (by decide) d_K_domain_120
  have hf := rd_f hf c10
  by_cases c11 : p2 = 7
  · have hf := rd_t hf c11
    refine lv_tableIn (off := 103) (tgt := 121) hx hb d_K_domain_18 (by rw [c11]; decide) (by rw [c11]; decide) (by rw [c11]; rfl) (by decide) ?_
    refine lv_aload_n hx hb d_K_domain_121 rfl (lv_at hl 0 rfl) ?_
    refine lv_aload_n hx hb d_K_domain_122 rfl (lv_at hl 1 rfl) ?_
    refine gf_K_today C9 hW l_K_34 d_K_domain_123 ?_
    obtain ⟨r12, qr12, hf⟩ := rd_bind hf
    refine rd_callV (As := [.int ((M 0).1 4)]) (rest := []) rd_gd C9 hTh hW (c_D_gracesOn hls r3 ((M 0).1 4) br3_0 qr12) kc_D_gracesOn ki_D_gracesOn ks_D_gracesOn l_K_245 rfl (lt_D br3_0) (ce_D br3_0) rfl ⟨Nat.le_of_ble_eq_true rfl, Nat.le_of_ble_eq_true rfl⟩ ⟨Nat.le_of_ble_eq_true rfl, Nat.le_of_ble_eq_true rfl⟩ hl.1 rfl (Nat.le_of_ble_eq_true rfl) d_K_domain_126 (fun E _ _ _ _ hex => hex.elim) (fun rr MM H locs hp hW => ?_)
    obtain ⟨rfl, rfl⟩ := hp
    obtain rfl := Option.some.inj hf
    exact rd_iret C9 hlk hret hW ⟨_, rfl, rfl, rfl⟩ (by decide) (by decide) d_K_domain_129
  have hf := rd_f hf c11
  by_cases c13 : p2 = 8
  · have hf := rd_t hf c13
    refine lv_tableIn (off := 112) (tgt := 130) hx hb d_K_domain_18 (by rw [c13]; decide) (by rw [c13]; decide) (by rw [c13]; rfl) (by decide) ?_
    refine lv_aload_n hx hb d_K_domain_130 rfl (lv_at hl 0 rfl) ?_
    refine gf_D_rows C9 hW br3_0 l_K_130 d_K_domain_131 ?_
    refine lv_iconst (v := 0) hx hb d_K_domain_134 (by decide) ?_
    refine al_rows C9 hW br3_0 (i := 0) (by decide) (show rd_in 0 2 by decide) d_K_domain_135 ?_
    refine lv_iload_n hx hb d_K_domain_136 rfl (lv_at hl 3 rfl) ?_
    refine lv_bipush (v := 8) hx hb d_K_domain_137 (by decide) ?_
    refine lv_isub hx hb d_K_domain_139 ?_
    obtain ⟨r14, qr14, hf⟩ := rd_bind hf
    refine rd_callV (As := [.int (p2 - 8)]) (rest := []) rd_gd C9 hTh hW (c_R_at hls r3 0 (p2 - 8) br3_0 (by decide) qr14) kc_R_at ki_R_at ks_R_at l_K_249 rfl (lt_R br3_0 (by decide)) (ce_R br3_0 (by decide)) rfl ⟨Nat.le_of_ble_eq_true rfl, Nat.le_of_ble_eq_true rfl⟩ ⟨Nat.le_of_ble_eq_true rfl, Nat.le_of_ble_eq_true rfl⟩ hl.1 rfl (Nat.le_of_ble_eq_true rfl) d_K_domain_140 (fun E _ _ _ _ hex => hex.elim) (fun rr MM H locs hp hW => ?_)
    obtain ⟨rfl, rfl⟩ := hp
    obtain rfl := Option.some.inj hf
    exact rd_iret C9 hlk hret hW ⟨_, rfl, rfl, rfl⟩ (by decide) (by decide) d_K_domain_143
  have hf := rd_f hf c13
  by_cases c15 : p2 = 9
  · have hf := rd_t hf c15
    refine lv_tableIn (off := 112) (tgt := 130) hx hb d_K_domain_18 (by rw [c15]; decide) (by rw [c15]; decide) (by rw [c15]; rfl) (by decide) ?_
    refine lv_aload_n hx hb d_K_domain_130 rfl (lv_at hl 0 rfl) ?_
    refine gf_D_rows C9 hW br3_0 l_K_130 d_K_domain_131 ?_
    refine lv_iconst (v := 0) hx hb d_K_domain_134 (by decide) ?_
    refine al_rows C9 hW br3_0 (i := 0) (by decide) (show rd_in 0 2 by decide) d_K_domain_135 ?_
    refine lv_iload_n hx hb d_K_domain_136 rfl (lv_at hl 3 rfl) ?_
    refine lv_bipush (v := 8) hx hb d_K_domain_137 (by decide) ?_
    refine lv_isub hx hb d_K_domain_139 ?_
    obtain ⟨r16, qr16, hf⟩ := rd_bind hf
    refine rd_callV (As := [.int (p2 - 8)]) (rest := []) rd_gd C9 hTh hW (c_R_at hls r3 0 (p2 - 8) br3_0 (by decide) qr16) kc_R_at ki_R_at ks_R_at l_K_249 rfl (lt_R br3_0 (by decide)) (ce_R br3_0 (by decide)) rfl ⟨Nat.le_of_ble_eq_true rfl, Nat.le_of_ble_eq_true rfl⟩ ⟨Nat.le_of_ble_eq_true rfl, Nat.le_of_ble_eq_true rfl⟩ hl.1 rfl (Nat.le_of_ble_eq_true rfl) d_K_domain_140 (fun E _ _ _ _ hex => hex.elim) (fun rr MM H locs hp hW => ?_)
    obtain ⟨rfl, rfl⟩ := hp
    obtain rfl := Option.some.inj hf
    exact rd_iret C9 hlk hret hW ⟨_, rfl, rfl, rfl⟩ (by decide) (by decide) d_K_domain_143
  have hf := rd_f hf c15
  by_cases c17 : p2 = 10
  · have hf := rd_t hf c17
    refine lv_tableIn (off := 112) (tgt := 130) hx hb d_K_domain_18 (by rw [c17]; decide) (by rw [c17]; decide) (by rw [c17]; rfl) (by decide) ?_
    refine lv_aload_n hx hb d_K_domain_130 rfl (lv_at hl 0 rfl) ?_
    refine gf_D_rows C9 hW br3_0 l_K_130 d_K_domain_131 ?_
    refine lv_iconst (v := 0) hx hb d_K_domain_134 (by decide) ?_
    refine al_rows C9 hW br3_0 (i := 0) (by decide) (show rd_in 0 2 by decide) d_K_domain_135 ?_
    refine lv_iload_n hx hb d_K_domain_136 rfl (lv_at hl 3 rfl) ?_
    refine lv_bipush (v := 8) hx hb d_K_domain_137 (by decide) ?_
    refine lv_isub hx hb d_K_domain_139 ?_
    obtain ⟨r18, qr18, hf⟩ := rd_bind hf
    refine rd_callV (As := [.int (p2 - 8)]) (rest := []) rd_gd C9 hTh hW (c_R_at hls r3 0 (p2 - 8) br3_0 (by decide) qr18) kc_R_at ki_R_at ks_R_at l_K_249 rfl (lt_R br3_0 (by decide)) (ce_R br3_0 (by decide)) rfl ⟨Nat.le_of_ble_eq_true rfl, Nat.le_of_ble_eq_true rfl⟩ ⟨Nat.le_of_ble_eq_true rfl, Nat.le_of_ble_eq_true rfl⟩ hl.1 rfl (Nat.le_of_ble_eq_true rfl) d_K_domain_140 (fun E _ _ _ _ hex => hex.elim) (fun rr MM H locs hp hW => ?_)
    obtain ⟨rfl, rfl⟩ := hp
    obtain rfl := Option.some.inj hf
    exact rd_iret C9 hlk hret hW ⟨_, rfl, rfl, rfl⟩ (by decide) (by decide) d_K_domain_143
  have hf := rd_f hf c17
  refine lv_tableOut (tgt := 144) hx hb d_K_domain_18 (by
    have nc4 : ¬ (p2).toInt = 0 := fun h => c4 (Int32.toInt_inj.mp h)
    have nc5 : ¬ (p2).toInt = 1 := fun h => c5 (Int32.toInt_inj.mp h)
    have nc6 : ¬ (p2).toInt = 2 := fun h => c6 (Int32.toInt_inj.mp h)
    have nc7 : ¬ (p2).toInt = 3 := fun h => c7 (Int32.toInt_inj.mp h)
    have nc8 : ¬ (p2).toInt = 4 := fun h => c8 (Int32.toInt_inj.mp h)
    have nc9 : ¬ (p2).toInt = 5 := fun h => c9 (Int32.toInt_inj.mp h)
    have nc10 : ¬ (p2).toInt = 6 := fun h => c10 (Int32.toInt_inj.mp h)
    have nc11 : ¬ (p2).toInt = 7 := fun h => c11 (Int32.toInt_inj.mp h)
    have nc13 : ¬ (p2).toInt = 8 := fun h => c13 (Int32.toInt_inj.mp h)
    have nc15 : ¬ (p2).toInt = 9 := fun h => c15 (Int32.toInt_inj.mp h)
    have nc17 : ¬ (p2).toInt = 10 := fun h => c17 (Int32.toInt_inj.mp h)
    omega) (by decide) ?_
  refine lv_aload_n hx hb d_K_domain_144 rfl (lv_at hl 0 rfl) ?_
  refine gf_D_rows C9 hW br3_0 l_K_130 d_K_domain_145 ?_
  refine lv_iconst (v := 1) hx hb d_K_domain_148 (by decide) ?_
  refine al_rows C9 hW br3_0 (i := 1) (by decide) (show rd_in 1 2 by decide) d_K_domain_149 ?_
  refine lv_iload_n hx hb d_K_domain_150 rfl (lv_at hl 3 rfl) ?_
  refine lv_bipush (v := 11) hx hb d_K_domain_151 (by decide) ?_
  refine lv_isub hx hb d_K_domain_153 ?_
  obtain ⟨r19, qr19, hf⟩ := rd_bind hf
  refine rd_callV (As := [.int (p2 - 11)]) (rest := []) rd_gd C9 hTh hW (c_R_at hls r3 1 (p2 - 11) br3_0 (by decide) qr19) kc_R_at ki_R_at ks_R_at l_K_249 rfl (lt_R br3_0 (by decide)) (ce_R br3_0 (by decide)) rfl ⟨Nat.le_of_ble_eq_true rfl, Nat.le_of_ble_eq_true rfl⟩ ⟨Nat.le_of_ble_eq_true rfl, Nat.le_of_ble_eq_true rfl⟩ hl.1 rfl (Nat.le_of_ble_eq_true rfl) d_K_domain_154 (fun E _ _ _ _ hex => hex.elim) (fun rr MM H locs hp hW => ?_)
  obtain ⟨rfl, rfl⟩ := hp
  obtain rfl := Option.some.inj hf
  exact rd_iret C9 hlk hret hW ⟨_, rfl, rfl, rfl⟩ (by decide) (by decide) d_K_domain_157
def f_K_thing (M : rd_M) (p1 : Int32) (p2 : Int32) : Option (String ⊕ Int32) :=
  rd_k (if 100 ≤ p1 then 0 else 1 : Int32) fun z2 =>
  rd_k (if z2 = 1 then p1 else p1 - 100 : Int32) fun z4 =>
  rd_b (f_K_requireRange M z4 0 7) fun r5 =>
  rd_b (f_K_requireRange M p2 0 3) fun r6 =>
  rd_b (f_K_thingThere M z2 z4) fun r7 =>
  if p2 = 0 then
    some (.inr ((M (18 + 10 * r7.1 + r7.2)).1 1))
  else
    if p2 = 3 then
      (f_K_usesOf M z2 z4).bind fun r13 =>
      some (.inr r13)
    else
      if z2 = 0 then
        some (.inr (-1))
      else
        rd_k (if p2 = 1 then (M (18 + 10 * r7.1 + r7.2)).1 3 else (M (18 + 10 * r7.1 + r7.2)).1 2 : Int32) fun z12 =>
        some (.inr z12)
set_option maxRecDepth 100000 in
set_option maxHeartbeats 4000000 in
theorem c_K_thing {l : Launch} (hls : l.stackTraces = false) {D : va_G} {Ka : Nat → ClassId} {ad : Nat → Nat} {M : rd_M} (p1 : Int32) (p2 : Int32)  {o : String ⊕ Int32} (hf : f_K_thing M p1 p2 = some o) :
    rd_Met l y_K_thing b_K_thing 6 (some .int) (7, 112, 3, 18) rd_T rd_ss D rd_cl (rd_ty Ka) (dk_L Ka) ad M [.ref (ad 0), .int p1, .int p2] (fun r M1 => ∃ v, o = .inr v ∧ r = some (.int v) ∧ M = M1) (fun E => o = .inl E) := by
  refine rd_body (by decide) (Nat.le_of_ble_eq_true rfl) ?_
  intro p e s m below meth c C9 hlk hret hnt hTh hW ls hl
  have hx := C9.1.1
  have hb := C9.1.2.1
  have hl : lv_has ls 6 [(0, .ref (ad 0)), (1, .int p1), (2, .int p2)] := hl
  unfold f_K_thing at hf
  refine lv_iload_n hx hb d_K_thing_0 rfl (lv_at hl 1 rfl) ?_
  refine lv_bipush (v := 100) hx hb d_K_thing_1 (by decide) ?_
  obtain ⟨z2, hz2, hf⟩ := rd_k_el hf
  refine rd_sel z2 (fun z => F0 m 11 ls (.int z :: [])) hz2 (fun hJ => ?_) ?_
  · refine lv_icmp_ge (tgt := 10) hx hb d_K_thing_3 (by decide) (fun c1 => ?_) (fun c1 => ?_)
    · have hJ := rd_selt (g := (fun z => F0 m 11 ls (.int z :: []))) hJ c1
      refine lv_iconst (v := 0) hx hb d_K_thing_10 (by decide) ?_
      exact hJ
    · have hJ := rd_self (g := (fun z => F0 m 11 ls (.int z :: []))) hJ c1
      refine lv_iconst (v := 1) hx hb d_K_thing_6 (by decide) ?_
      refine lv_goto (tgt := 11) hx hb d_K_thing_7 (by decide) ?_
      exact hJ
  refine lv_istore_n (lv' := [(3, .int z2), (0, .ref (ad 0)), (1, .int p1), (2, .int p2)]) hx hb d_K_thing_11 rfl hl (by decide) rfl (fun ls hl => ?_)
  refine lv_iload_n hx hb d_K_thing_12 rfl (lv_at hl 0 rfl) ?_
  refine lv_iconst (v := 1) hx hb d_K_thing_13 (by decide) ?_
  obtain ⟨z4, hz4, hf⟩ := rd_k_el hf
  refine rd_sel z4 (fun z => F0 m 25 ls (.int z :: [])) hz4 (fun hJ => ?_) ?_
  · refine lv_icmp_ne (tgt := 21) hx hb d_K_thing_14 (by decide) (fun c3 => ?_) (fun c3 => ?_)
    · have hJ := rd_self (g := (fun z => F0 m 25 ls (.int z :: []))) hJ c3
      refine lv_iload_n hx hb d_K_thing_21 rfl (lv_at hl 2 rfl) ?_
      refine lv_bipush (v := 100) hx hb d_K_thing_22 (by decide) ?_
      refine lv_isub hx hb d_K_thing_24 ?_
      exact hJ
    · have hJ := rd_selt (g := (fun z => F0 m 25 ls (.int z :: []))) hJ c3
      refine lv_iload_n hx hb d_K_thing_17 rfl (lv_at hl 2 rfl) ?_
      refine lv_goto (tgt := 25) hx hb d_K_thing_18 (by decide) ?_
      exact hJ
  refine lv_istore (lv' := [(4, .int z4), (3, .int z2), (0, .ref (ad 0)), (1, .int p1), (2, .int p2)]) hx hb d_K_thing_25 hl (by decide) rfl (fun ls hl => ?_)
  refine lv_iload hx hb d_K_thing_27 (lv_at hl 0 rfl) ?_
  refine lv_iconst (v := 0) hx hb d_K_thing_29 (by decide) ?_
  refine lv_bipush (v := 7) hx hb d_K_thing_30 (by decide) ?_
  obtain ⟨or5, qr5, xr5, vr5⟩ := rd_b_run hf
  refine rd_callS (As := [.int z4, .int 0, .int 7]) (rest := []) rd_gd C9 hTh hW (c_K_requireRange hls z4 0 7 qr5) kc_K_requireRange ki_K_requireRange l_K_38 rfl ⟨Nat.le_of_ble_eq_true rfl, Nat.le_of_ble_eq_true rfl⟩ ⟨Nat.le_of_ble_eq_true rfl, Nat.le_of_ble_eq_true rfl⟩ hl.1 rfl (Nat.le_of_ble_eq_true rfl) d_K_thing_32 (fun E ce q9 H locs hex hW h1 h2 h3 => rd_out hnt hlk hW (xr5 E hex) h1 h2 h3 (by decide) (by decide)) (fun rr MM H locs hp hW => ?_)
  obtain ⟨r5, er5, rfl, rfl⟩ := hp
  have hf := vr5 _ er5
  refine lv_iload_n hx hb d_K_thing_35 rfl (lv_at hl 4 rfl) ?_
  refine lv_iconst (v := 0) hx hb d_K_thing_36 (by decide) ?_
  refine lv_iconst (v := 3) hx hb d_K_thing_37 (by decide) ?_
  obtain ⟨or6, qr6, xr6, vr6⟩ := rd_b_run hf
  refine rd_callS (As := [.int p2, .int 0, .int 3]) (rest := []) rd_gd C9 hTh hW (c_K_requireRange hls p2 0 3 qr6) kc_K_requireRange ki_K_requireRange l_K_38 rfl ⟨Nat.le_of_ble_eq_true rfl, Nat.le_of_ble_eq_true rfl⟩ ⟨Nat.le_of_ble_eq_true rfl, Nat.le_of_ble_eq_true rfl⟩ hl.1 rfl (Nat.le_of_ble_eq_true rfl) d_K_thing_38 (fun E ce q9 H locs hex hW h1 h2 h3 => rd_out hnt hlk hW (xr6 E hex) h1 h2 h3 (by decide) (by decide)) (fun rr MM H locs hp hW => ?_)
  obtain ⟨r6, er6, rfl, rfl⟩ := hp
  have hf := vr6 _ er6
  refine lv_aload_n hx hb d_K_thing_41 rfl (lv_at hl 2 rfl) ?_
  refine lv_iload_n hx hb d_K_thing_42 rfl (lv_at hl 1 rfl) ?_
  refine lv_iload hx hb d_K_thing_43 (lv_at hl 0 rfl) ?_
  obtain ⟨or7, qr7, xr7, vr7⟩ := rd_b_run hf
  refine rd_callV (As := [.int z2, .int z4]) (rest := []) rd_gd C9 hTh hW (c_K_thingThere hls z2 z4 qr7) kc_K_thingThere ki_K_thingThere ks_K_thingThere l_K_76 rfl (lt_K) (ce_K) rfl ⟨Nat.le_of_ble_eq_true rfl, Nat.le_of_ble_eq_true rfl⟩ ⟨Nat.le_of_ble_eq_true rfl, Nat.le_of_ble_eq_true rfl⟩ hl.1 rfl (Nat.le_of_ble_eq_true rfl) d_K_thing_45 (fun E ce q9 H locs hex hW h1 h2 h3 => rd_out hnt hlk hW (xr7 E hex) h1 h2 h3 (by decide) (by decide)) (fun rr MM H locs hp hW => ?_)
  obtain ⟨r7, er7, rfl, rfl, br7_0, br7_1⟩ := hp
  have hf := vr7 _ er7
  refine lv_astore (lv' := [(5, .ref (ad (18 + 10 * r7.1 + r7.2))), (4, .int z4), (3, .int z2), (0, .ref (ad 0)), (1, .int p1), (2, .int p2)]) hx hb d_K_thing_48 hl (by decide) rfl (fun ls hl => ?_)
  refine lv_iload_n hx hb d_K_thing_50 rfl (lv_at hl 5 rfl) ?_
  refine lv_if_ne (tgt := 60) hx hb d_K_thing_51 (by decide) (fun c8 => ?_) (fun c8 => ?_)
  · have hf := rd_f hf c8
    refine lv_iload_n hx hb d_K_thing_60 rfl (lv_at hl 5 rfl) ?_
    refine lv_iconst (v := 3) hx hb d_K_thing_61 (by decide) ?_
    refine lv_icmp_ne (tgt := 73) hx hb d_K_thing_62 (by decide) (fun c9 => ?_) (fun c9 => ?_)
    · have hf := rd_f hf c9
      refine lv_iload_n hx hb d_K_thing_73 rfl (lv_at hl 2 rfl) ?_
      refine lv_if_ne (tgt := 79) hx hb d_K_thing_74 (by decide) (fun c10 => ?_) (fun c10 => ?_)
      · have hf := rd_f hf c10
        refine lv_iload_n hx hb d_K_thing_79 rfl (lv_at hl 5 rfl) ?_
        refine lv_iconst (v := 1) hx hb d_K_thing_80 (by decide) ?_
        obtain ⟨z12, hz12, hf⟩ := rd_k_el hf
        refine rd_sel z12 (fun z => F0 m 97 ls (.int z :: [])) hz12 (fun hJ => ?_) ?_
        · refine lv_icmp_ne (tgt := 92) hx hb d_K_thing_81 (by decide) (fun c11 => ?_) (fun c11 => ?_)
          · have hJ := rd_self (g := (fun z => F0 m 97 ls (.int z :: []))) hJ c11
            refine lv_aload hx hb d_K_thing_92 (lv_at hl 0 rfl) ?_
            refine gf_T_under C9 hW br7_0 br7_1 l_K_255 d_K_thing_94 ?_
            exact hJ
          · have hJ := rd_selt (g := (fun z => F0 m 97 ls (.int z :: []))) hJ c11
            refine lv_aload hx hb d_K_thing_84 (lv_at hl 0 rfl) ?_
            refine gf_T_address C9 hW br7_0 br7_1 l_K_252 d_K_thing_86 ?_
            refine lv_goto (tgt := 97) hx hb d_K_thing_89 (by decide) ?_
            exact hJ
        obtain rfl := Option.some.inj hf
        exact rd_iret C9 hlk hret hW ⟨_, rfl, rfl, rfl⟩ (by decide) (by decide) d_K_thing_97
      · have hf := rd_t hf c10
        refine lv_iconst (v := (-1)) hx hb d_K_thing_77 (by decide) ?_
        obtain rfl := Option.some.inj hf
        exact rd_iret C9 hlk hret hW ⟨_, rfl, rfl, rfl⟩ (by decide) (by decide) d_K_thing_78
    · have hf := rd_t hf c9
      refine lv_aload_n hx hb d_K_thing_65 rfl (lv_at hl 3 rfl) ?_
      refine lv_iload_n hx hb d_K_thing_66 rfl (lv_at hl 2 rfl) ?_
      refine lv_iload hx hb d_K_thing_67 (lv_at hl 1 rfl) ?_
      obtain ⟨r13, qr13, hf⟩ := rd_bind hf
      refine rd_callV (As := [.int z2, .int z4]) (rest := []) rd_gd C9 hTh hW (c_K_usesOf hls z2 z4 qr13) kc_K_usesOf ki_K_usesOf ks_K_usesOf l_K_83 rfl (lt_K) (ce_K) rfl ⟨Nat.le_of_ble_eq_true rfl, Nat.le_of_ble_eq_true rfl⟩ ⟨Nat.le_of_ble_eq_true rfl, Nat.le_of_ble_eq_true rfl⟩ hl.1 rfl (Nat.le_of_ble_eq_true rfl) d_K_thing_69 (fun E _ _ _ _ hex => hex.elim) (fun rr MM H locs hp hW => ?_)
      obtain ⟨rfl, rfl⟩ := hp
      obtain rfl := Option.some.inj hf
      exact rd_iret C9 hlk hret hW ⟨_, rfl, rfl, rfl⟩ (by decide) (by decide) d_K_thing_72
  · have hf := rd_t hf c8
    refine lv_aload hx hb d_K_thing_54 (lv_at hl 0 rfl) ?_
    refine gf_T_owner C9 hW br7_0 br7_1 l_K_80 d_K_thing_56 ?_
    obtain rfl := Option.some.inj hf
    exact rd_iret C9 hlk hret hW ⟨_, rfl, rfl, rfl⟩ (by decide) (by decide) d_K_thing_59
def f_K_showsAddress (M : rd_M) (p1 : Int32) (p2 : Int32) : Option (Int32) :=
  (f_S_liesUnder M 1 p2 p1).bind fun r1 =>
  if r1 = 0 then
    some 0
  else
    (f_K_usesOf M 1 p2).bind fun r3 =>
    rd_k (if r3 ≤ 0 then 0 else 1 : Int32) fun z5 =>
    some z5
set_option maxRecDepth 100000 in
set_option maxHeartbeats 4000000 in
theorem c_K_showsAddress {l : Launch} (hls : l.stackTraces = false) {D : va_G} {Ka : Nat → ClassId} {ad : Nat → Nat} {M : rd_M} (p1 : Int32) (p2 : Int32)  {o : Int32} (hf : f_K_showsAddress M p1 p2 = some o) :
    rd_Met l y_K_showsAddress b_K_showsAddress 3 (some .boolean) (3, 68, 0, 0) rd_T rd_ss D rd_cl (rd_ty Ka) (dk_L Ka) ad M [.ref (ad 0), .int p1, .int p2] (fun r M1 => r = some (.int o) ∧ M = M1) (fun _ => False) := by
  refine rd_body (by decide) (Nat.le_of_ble_eq_true rfl) ?_
  intro p e s m below meth c C9 hlk hret hnt hTh hW ls hl
  have hx := C9.1.1
  have hb := C9.1.2.1
  have hl : lv_has ls 3 [(0, .ref (ad 0)), (1, .int p1), (2, .int p2)] := hl
  unfold f_K_showsAddress at hf
  refine lv_aload_n hx hb d_K_showsAddress_0 rfl (lv_at hl 0 rfl) ?_
  refine gf_K_shelves C9 hW l_K_22 d_K_showsAddress_1 ?_
  refine lv_iconst (v := 1) hx hb d_K_showsAddress_4 (by decide) ?_
  refine al_shelves C9 hW (i := 1) (by decide) (show rd_in 1 2 by decide) d_K_showsAddress_5 ?_
  refine lv_iload_n hx hb d_K_showsAddress_6 rfl (lv_at hl 2 rfl) ?_
  refine lv_iload_n hx hb d_K_showsAddress_7 rfl (lv_at hl 1 rfl) ?_
  obtain ⟨r1, qr1, hf⟩ := rd_bind hf
  refine rd_callV (As := [.int p2, .int p1]) (rest := []) rd_gd C9 hTh hW (c_S_liesUnder hls 1 p2 p1 (by decide) qr1) kc_S_liesUnder ki_S_liesUnder ks_S_liesUnder l_K_340 rfl (lt_S (by decide)) (ce_S (by decide)) rfl ⟨Nat.le_of_ble_eq_true rfl, Nat.le_of_ble_eq_true rfl⟩ ⟨Nat.le_of_ble_eq_true rfl, Nat.le_of_ble_eq_true rfl⟩ hl.1 rfl (Nat.le_of_ble_eq_true rfl) d_K_showsAddress_8 (fun E _ _ _ _ hex => hex.elim) (fun rr MM H locs hp hW => ?_)
  obtain ⟨rfl, rfl⟩ := hp
  refine lv_if_eq (tgt := 27) hx hb d_K_showsAddress_11 (by decide) (fun c2 => ?_) (fun c2 => ?_)
  · have hf := rd_t hf c2
    refine lv_iconst (v := 0) hx hb d_K_showsAddress_27 (by decide) ?_
    obtain rfl := Option.some.inj hf
    exact rd_zret C9 hlk hret hW (Or.inl rfl) ⟨rfl, rfl⟩ (by decide) (by decide) d_K_showsAddress_28
  · have hf := rd_f hf c2
    refine lv_aload_n hx hb d_K_showsAddress_14 rfl (lv_at hl 0 rfl) ?_
    refine lv_iconst (v := 1) hx hb d_K_showsAddress_15 (by decide) ?_
    refine lv_iload_n hx hb d_K_showsAddress_16 rfl (lv_at hl 2 rfl) ?_
    obtain ⟨r3, qr3, hf⟩ := rd_bind hf
    refine rd_callV (As := [.int 1, .int p2]) (rest := []) rd_gd C9 hTh hW (c_K_usesOf hls 1 p2 qr3) kc_K_usesOf ki_K_usesOf ks_K_usesOf l_K_83 rfl (lt_K) (ce_K) rfl ⟨Nat.le_of_ble_eq_true rfl, Nat.le_of_ble_eq_true rfl⟩ ⟨Nat.le_of_ble_eq_true rfl, Nat.le_of_ble_eq_true rfl⟩ hl.1 rfl (Nat.le_of_ble_eq_true rfl) d_K_showsAddress_17 (fun E _ _ _ _ hex => hex.elim) (fun rr MM H locs hp hW => ?_)
    obtain ⟨rfl, rfl⟩ := hp
    obtain ⟨z5, hz5, hf⟩ := rd_k_el hf
    refine rd_sel z5 (fun z => F0 m 28 ls (.int z :: [])) hz5 (fun hJ => ?_) ?_
    · refine lv_if_le (tgt := 27) hx hb d_K_showsAddress_20 (by decide) (fun c4 => ?_) (fun c4 => ?_)
      · have hJ := rd_selt (g := (fun z => F0 m 28 ls (.int z :: []))) hJ c4
        refine lv_iconst (v := 0) hx hb d_K_showsAddress_27 (by decide) ?_
        exact hJ
      · have hJ := rd_self (g := (fun z => F0 m 28 ls (.int z :: []))) hJ c4
        refine lv_iconst (v := 1) hx hb d_K_showsAddress_23 (by decide) ?_
        refine lv_goto (tgt := 28) hx hb d_K_showsAddress_24 (by decide) ?_
        exact hJ
    have hb9 : z5 = 0 ∨ z5 = 1 := by rw [hz5]; split <;> simp
    obtain rfl := Option.some.inj hf
    exact rd_zret C9 hlk hret hW hb9 ⟨rfl, rfl⟩ (by decide) (by decide) d_K_showsAddress_28
def lb_K_zoneRowsOf_31 (M : rd_M) (q1 : Int32) (Kf : Int32 → Int32 → Option (Int32)) (rec : Int32 → Int32 → Option (Int32)) (v31_3 : Int32) (v31_2 : Int32) : Option (Int32) :=
  if 8 ≤ v31_3 then
    Kf v31_3 v31_2
  else
    (f_K_showsAddress M q1 v31_3).bind fun r6 =>
    if r6 = 0 then
      rec (v31_3 + 1) v31_2
    else
      rec (v31_3 + 1) (v31_2 + 1)
def f_K_zoneRowsOf (M : rd_M) (p1 : Int32) : Option (Int32) :=
  if rd_in p1 10 then
  (f_D_isDelegated M p1.toNatClampNeg).bind fun r2 =>
  if r2 = 0 then
    some 0
  else
    if rd_in p1 10 then
    rd_it (fun _ _ => none) (lb_K_zoneRowsOf_31 M p1 (fun w31_3 w31_2 =>
      some w31_2)) 64 0 ((M (39 + 8 * p1.toNatClampNeg + 2 * 1)).1 1)
    else none
  else none
set_option maxRecDepth 100000 in
set_option maxHeartbeats 4000000 in
theorem c_K_zoneRowsOf {l : Launch} (hls : l.stackTraces = false) {D : va_G} {Ka : Nat → ClassId} {ad : Nat → Nat} {M : rd_M} (p1 : Int32)  {o : Int32} (hf : f_K_zoneRowsOf M p1 = some o) :
    rd_Met l y_K_zoneRowsOf b_K_zoneRowsOf 4 (some .int) (4, 90, 0, 0) rd_T rd_ss D rd_cl (rd_ty Ka) (dk_L Ka) ad M [.ref (ad 0), .int p1] (fun r M1 => r = some (.int o) ∧ M = M1) (fun _ => False) := by
  refine rd_body (by decide) (Nat.le_of_ble_eq_true rfl) ?_
  intro p e s m below meth c C9 hlk hret hnt hTh hW ls hl
  have hx := C9.1.1
  have hb := C9.1.2.1
  have hl : lv_has ls 4 [(0, .ref (ad 0)), (1, .int p1)] := hl
  unfold f_K_zoneRowsOf at hf
  refine lv_aload_n hx hb d_K_zoneRowsOf_0 rfl (lv_at hl 0 rfl) ?_
  refine gf_K_domains C9 hW l_K_29 d_K_zoneRowsOf_1 ?_
  refine lv_iload_n hx hb d_K_zoneRowsOf_4 rfl (lv_at hl 1 rfl) ?_
  obtain ⟨g1, hf⟩ := rd_g hf
  refine al_domains C9 hW rfl g1 d_K_zoneRowsOf_5 ?_
  obtain ⟨r2, qr2, hf⟩ := rd_bind hf
  refine rd_callV (As := []) (rest := []) rd_gd C9 hTh hW (c_D_isDelegated hls p1.toNatClampNeg (rd_lt g1) qr2) kc_D_isDelegated ki_D_isDelegated ks_D_isDelegated l_K_355 rfl (lt_D (rd_lt g1)) (ce_D (rd_lt g1)) rfl ⟨Nat.le_of_ble_eq_true rfl, Nat.le_of_ble_eq_true rfl⟩ ⟨Nat.le_of_ble_eq_true rfl, Nat.le_of_ble_eq_true rfl⟩ hl.1 rfl (Nat.le_of_ble_eq_true rfl) d_K_zoneRowsOf_6 (fun E _ _ _ _ hex => hex.elim) (fun rr MM H locs hp hW => ?_)
  obtain ⟨rfl, rfl⟩ := hp
  refine lv_if_ne (tgt := 14) hx hb d_K_zoneRowsOf_9 (by decide) (fun c3 => ?_) (fun c3 => ?_)
  · have hf := rd_f hf c3
    refine lv_aload_n hx hb d_K_zoneRowsOf_14 rfl (lv_at hl 0 rfl) ?_
    refine gf_K_domains C9 hW l_K_29 d_K_zoneRowsOf_15 ?_
    refine lv_iload_n hx hb d_K_zoneRowsOf_18 rfl (lv_at hl 1 rfl) ?_
    obtain ⟨g4, hf⟩ := rd_g hf
    refine al_domains C9 hW rfl g4 d_K_zoneRowsOf_19 ?_
    refine gf_D_rows C9 hW (rd_lt g4) l_K_130 d_K_zoneRowsOf_20 ?_
    refine lv_iconst (v := 1) hx hb d_K_zoneRowsOf_23 (by decide) ?_
    refine al_rows C9 hW (rd_lt g4) (i := 1) (by decide) (show rd_in 1 2 by decide) d_K_zoneRowsOf_24 ?_
    refine gf_R_size C9 hW (rd_lt g4) (by decide) l_K_150 d_K_zoneRowsOf_25 ?_
    refine lv_istore_n (lv' := [(2, .int ((M (39 + 8 * p1.toNatClampNeg + 2 * 1)).1 1)), (0, .ref (ad 0)), (1, .int p1)]) hx hb d_K_zoneRowsOf_28 rfl hl (by decide) rfl (fun ls hl => ?_)
    refine lv_iconst (v := 0) hx hb d_K_zoneRowsOf_29 (by decide) ?_
    refine lv_istore_n (lv' := [(3, .int 0), (2, .int ((M (39 + 8 * p1.toNatClampNeg + 2 * 1)).1 1)), (0, .ref (ad 0)), (1, .int p1)]) hx hb d_K_zoneRowsOf_30 rfl hl (by decide) rfl (fun ls hl => ?_)
    have loop_31 : ∀ (Kf : Int32 → Int32 → Option (Int32)) (hk_31 : ∀ (w31_3 : Int32) (w31_2 : Int32) (H : Heap) (locs : List Loc) (ls : Array Slot), Kf w31_3 w31_2 = some o → rd_W D rd_cl (dk_L Ka) ad (rd_A (dk_L Ka) ad s.heap.size) s.heap M H locs → lv_has ls 4 [(3, .int w31_3), (2, .int w31_2), (0, .ref (ad 0)), (1, .int p1)] → W p l e { frames := 4, cells := 0, slots := 0, locals := 90 } s m [.ref (ad 0), .int p1].toArray below meth c H locs 0 0 (rd_Z below (rd_O D rd_cl (dk_L Ka) ad M (rd_A (dk_L Ka) ad s.heap.size) 0 0 (fun r M1 => r = some (.int o) ∧ M = M1) (fun _ => False)) s) (F0 m 55 ls [])) (fu : Nat) (v31_3 : Int32) (v31_2 : Int32) (H : Heap) (locs : List Loc) (ls : Array Slot), rd_it (fun _ _ => none) (lb_K_zoneRowsOf_31 M p1 Kf) fu v31_3 v31_2 = some o → rd_W D rd_cl (dk_L Ka) ad (rd_A (dk_L Ka) ad s.heap.size) s.heap M H locs → lv_has ls 4 [(3, .int v31_3), (2, .int v31_2), (0, .ref (ad 0)), (1, .int p1)] → W p l e { frames := 4, cells := 0, slots := 0, locals := 90 } s m [.ref (ad 0), .int p1].toArray below meth c H locs 0 0 (rd_Z below (rd_O D rd_cl (dk_L Ka) ad M (rd_A (dk_L Ka) ad s.heap.size) 0 0 (fun r M1 => r = some (.int o) ∧ M = M1) (fun _ => False)) s) (F0 m 31 ls []) := by
      intro Kf hk_31 fu
      induction fu with
      | zero => intro _ _ H locs ls hf; exact (rd_nf hf).elim
      | succ fu ih_31 =>
        intro v31_3 v31_2 H locs ls hf hW hl
        rw [rd_it_s] at hf
        unfold lb_K_zoneRowsOf_31 at hf
        refine lv_iload_n hx hb d_K_zoneRowsOf_31 rfl (lv_at hl 0 rfl) ?_
        refine lv_bipush (v := 8) hx hb d_K_zoneRowsOf_32 (by decide) ?_
        refine lv_icmp_ge (tgt := 55) hx hb d_K_zoneRowsOf_34 (by decide) (fun c8 => ?_) (fun c8 => ?_)
        · have hf := rd_t hf c8
          exact hk_31 _ _ _ _ _ hf hW (lv_sub hl [0, 1, 2, 3] rfl)
        · have hf := rd_f hf c8
          refine lv_aload_n hx hb d_K_zoneRowsOf_37 rfl (lv_at hl 2 rfl) ?_
          refine lv_iload_n hx hb d_K_zoneRowsOf_38 rfl (lv_at hl 3 rfl) ?_
          refine lv_iload_n hx hb d_K_zoneRowsOf_39 rfl (lv_at hl 0 rfl) ?_
          obtain ⟨r9, qr9, hf⟩ := rd_bind hf
          refine rd_callV (As := [.int p1, .int v31_3]) (rest := []) rd_gd C9 hTh hW (c_K_showsAddress hls p1 v31_3 qr9) kc_K_showsAddress ki_K_showsAddress ks_K_showsAddress l_K_359 rfl (lt_K) (ce_K) rfl ⟨Nat.le_of_ble_eq_true rfl, Nat.le_of_ble_eq_true rfl⟩ ⟨Nat.le_of_ble_eq_true rfl, Nat.le_of_ble_eq_true rfl⟩ hl.1 rfl (Nat.le_of_ble_eq_true rfl) d_K_zoneRowsOf_40 (fun E _ _ _ _ hex => hex.elim) (fun rr MM H locs hp hW => ?_)
          obtain ⟨rfl, rfl⟩ := hp
          refine lv_if_eq (tgt := 49) hx hb d_K_zoneRowsOf_43 (by decide) (fun c10 => ?_) (fun c10 => ?_)
          · have hf := rd_t hf c10
            refine lv_iinc (v := v31_3 + 1) (lv' := [(3, .int (v31_3 + 1)), (2, .int v31_2), (0, .ref (ad 0)), (1, .int p1)]) hx hb d_K_zoneRowsOf_49 hl (k := 0) rfl rfl (by decide) rfl (fun ls hl => ?_)
            refine lv_goto (tgt := 31) hx hb d_K_zoneRowsOf_52 (by decide) ?_
            exact ih_31 _ _ _ _ _ hf hW (lv_sub hl [0, 1, 2, 3] rfl)
          · have hf := rd_f hf c10
            refine lv_iinc (v := v31_2 + 1) (lv' := [(2, .int (v31_2 + 1)), (3, .int v31_3), (0, .ref (ad 0)), (1, .int p1)]) hx hb d_K_zoneRowsOf_46 hl (k := 1) rfl rfl (by decide) rfl (fun ls hl => ?_)
            refine lv_iinc (v := v31_3 + 1) (lv' := [(3, .int (v31_3 + 1)), (2, .int (v31_2 + 1)), (0, .ref (ad 0)), (1, .int p1)]) hx hb d_K_zoneRowsOf_49 hl (k := 1) rfl rfl (by decide) rfl (fun ls hl => ?_)
            refine lv_goto (tgt := 31) hx hb d_K_zoneRowsOf_52 (by decide) ?_
            exact ih_31 _ _ _ _ _ hf hW (lv_sub hl [0, 1, 2, 3] rfl)
    refine loop_31 _ ?_ 64 _ _ _ _ _ hf hW (lv_sub hl [0, 1, 2, 3] rfl)
    intro w31_3 w31_2 H locs ls hf hW hl
    refine lv_iload_n hx hb d_K_zoneRowsOf_55 rfl (lv_at hl 1 rfl) ?_
    obtain rfl := Option.some.inj hf
    exact rd_iret C9 hlk hret hW ⟨rfl, rfl⟩ (by decide) (by decide) d_K_zoneRowsOf_56
  · have hf := rd_t hf c3
    refine lv_iconst (v := 0) hx hb d_K_zoneRowsOf_12 (by decide) ?_
    obtain rfl := Option.some.inj hf
    exact rd_iret C9 hlk hret hW ⟨rfl, rfl⟩ (by decide) (by decide) d_K_zoneRowsOf_13
def lb_K_zoneRowOf_43 (M : rd_M) (q3_0 : Nat) (q3_1 : Nat) (q1 : Int32) (q2 : Int32) (Kf : Int32 → Int32 → Option (Int32)) (rec : Int32 → Int32 → Option (Int32)) (v43_5 : Int32) (v43_4 : Int32) : Option (Int32) :=
  if 8 ≤ v43_5 then
    Kf v43_5 v43_4
  else
    (f_K_showsAddress M q1 v43_5).bind fun r4 =>
    if r4 = 0 then
      rec (v43_5 + 1) v43_4
    else
      if v43_4 = 0 then
        some (((1000 * q1) + 100) + v43_5)
      else
        rec (v43_5 + 1) (v43_4 + (-1))
def f_K_zoneRowOf (M : rd_M) (p1 : Int32) (p2 : Int32) : Option (Int32) :=
  if rd_in p1 10 then
  if ((M (39 + 8 * p1.toNatClampNeg + 2 * 1)).1 1) ≤ p2 then
    rd_it (fun _ _ => none) (lb_K_zoneRowOf_43 M p1.toNatClampNeg 1 p1 p2 (fun w43_5 w43_4 =>
      some (-1))) 64 0 (p2 - ((M (39 + 8 * p1.toNatClampNeg + 2 * 1)).1 1))
  else
    (f_R_at M p1.toNatClampNeg 1 p2).bind fun r11 =>
    some ((1000 * p1) + r11)
  else none
set_option maxRecDepth 100000 in
set_option maxHeartbeats 4000000 in
theorem c_K_zoneRowOf {l : Launch} (hls : l.stackTraces = false) {D : va_G} {Ka : Nat → ClassId} {ad : Nat → Nat} {M : rd_M} (p1 : Int32) (p2 : Int32)  {o : Int32} (hf : f_K_zoneRowOf M p1 p2 = some o) :
    rd_Met l y_K_zoneRowOf b_K_zoneRowOf 6 (some .int) (4, 90, 0, 0) rd_T rd_ss D rd_cl (rd_ty Ka) (dk_L Ka) ad M [.ref (ad 0), .int p1, .int p2] (fun r M1 => r = some (.int o) ∧ M = M1) (fun _ => False) := by
  refine rd_body (by decide) (Nat.le_of_ble_eq_true rfl) ?_
  intro p e s m below meth c C9 hlk hret hnt hTh hW ls hl
  have hx := C9.1.1
  have hb := C9.1.2.1
  have hl : lv_has ls 6 [(0, .ref (ad 0)), (1, .int p1), (2, .int p2)] := hl
  unfold f_K_zoneRowOf at hf
  refine lv_aload_n hx hb d_K_zoneRowOf_0 rfl (lv_at hl 0 rfl) ?_
  refine gf_K_domains C9 hW l_K_29 d_K_zoneRowOf_1 ?_
  refine lv_iload_n hx hb d_K_zoneRowOf_4 rfl (lv_at hl 1 rfl) ?_
  obtain ⟨g1, hf⟩ := rd_g hf
  refine al_domains C9 hW rfl g1 d_K_zoneRowOf_5 ?_
  refine gf_D_rows C9 hW (rd_lt g1) l_K_130 d_K_zoneRowOf_6 ?_
  refine lv_iconst (v := 1) hx hb d_K_zoneRowOf_9 (by decide) ?_
  refine al_rows C9 hW (rd_lt g1) (i := 1) (by decide) (show rd_in 1 2 by decide) d_K_zoneRowOf_10 ?_
  refine lv_astore_n (lv' := [(3, .ref (ad (39 + 8 * p1.toNatClampNeg + 2 * 1))), (0, .ref (ad 0)), (1, .int p1), (2, .int p2)]) hx hb d_K_zoneRowOf_11 rfl hl (by decide) rfl (fun ls hl => ?_)
  refine lv_iload_n hx hb d_K_zoneRowOf_12 rfl (lv_at hl 3 rfl) ?_
  refine lv_aload_n hx hb d_K_zoneRowOf_13 rfl (lv_at hl 0 rfl) ?_
  refine gf_R_size C9 hW (rd_lt g1) (by decide) l_K_150 d_K_zoneRowOf_14 ?_
  refine lv_icmp_ge (tgt := 32) hx hb d_K_zoneRowOf_17 (by decide) (fun c2 => ?_) (fun c2 => ?_)
  · have hf := rd_t hf c2
    refine lv_iload_n hx hb d_K_zoneRowOf_32 rfl (lv_at hl 3 rfl) ?_
    refine lv_aload_n hx hb d_K_zoneRowOf_33 rfl (lv_at hl 0 rfl) ?_
    refine gf_R_size C9 hW (rd_lt g1) (by decide) l_K_150 d_K_zoneRowOf_34 ?_
    refine lv_isub hx hb d_K_zoneRowOf_37 ?_
    refine lv_istore (lv' := [(4, .int (p2 - ((M (39 + 8 * p1.toNatClampNeg + 2 * 1)).1 1))), (3, .ref (ad (39 + 8 * p1.toNatClampNeg + 2 * 1))), (0, .ref (ad 0)), (1, .int p1), (2, .int p2)]) hx hb d_K_zoneRowOf_38 hl (by decide) rfl (fun ls hl => ?_)
    refine lv_iconst (v := 0) hx hb d_K_zoneRowOf_40 (by decide) ?_
    refine lv_istore (lv' := [(5, .int 0), (4, .int (p2 - ((M (39 + 8 * p1.toNatClampNeg + 2 * 1)).1 1))), (3, .ref (ad (39 + 8 * p1.toNatClampNeg + 2 * 1))), (0, .ref (ad 0)), (1, .int p1), (2, .int p2)]) hx hb d_K_zoneRowOf_41 hl (by decide) rfl (fun ls hl => ?_)
    have loop_43 : ∀ (Kf : Int32 → Int32 → Option (Int32)) (hk_43 : ∀ (w43_5 : Int32) (w43_4 : Int32) (H : Heap) (locs : List Loc) (ls : Array Slot), Kf w43_5 w43_4 = some o → rd_W D rd_cl (dk_L Ka) ad (rd_A (dk_L Ka) ad s.heap.size) s.heap M H locs → lv_has ls 6 [(5, .int w43_5), (4, .int w43_4), (3, .ref (ad (39 + 8 * p1.toNatClampNeg + 2 * 1))), (0, .ref (ad 0)), (1, .int p1), (2, .int p2)] → W p l e { frames := 4, cells := 0, slots := 0, locals := 90 } s m [.ref (ad 0), .int p1, .int p2].toArray below meth c H locs 0 0 (rd_Z below (rd_O D rd_cl (dk_L Ka) ad M (rd_A (dk_L Ka) ad s.heap.size) 0 0 (fun r M1 => r = some (.int o) ∧ M = M1) (fun _ => False)) s) (F0 m 86 ls [])) (fu : Nat) (v43_5 : Int32) (v43_4 : Int32) (H : Heap) (locs : List Loc) (ls : Array Slot), rd_it (fun _ _ => none) (lb_K_zoneRowOf_43 M p1.toNatClampNeg 1 p1 p2 Kf) fu v43_5 v43_4 = some o → rd_W D rd_cl (dk_L Ka) ad (rd_A (dk_L Ka) ad s.heap.size) s.heap M H locs → lv_has ls 6 [(5, .int v43_5), (4, .int v43_4), (3, .ref (ad (39 + 8 * p1.toNatClampNeg + 2 * 1))), (0, .ref (ad 0)), (1, .int p1), (2, .int p2)] → W p l e { frames := 4, cells := 0, slots := 0, locals := 90 } s m [.ref (ad 0), .int p1, .int p2].toArray below meth c H locs 0 0 (rd_Z below (rd_O D rd_cl (dk_L Ka) ad M (rd_A (dk_L Ka) ad s.heap.size) 0 0 (fun r M1 => r = some (.int o) ∧ M = M1) (fun _ => False)) s) (F0 m 43 ls []) := by
      intro Kf hk_43 fu
      induction fu with
      | zero => intro _ _ H locs ls hf; exact (rd_nf hf).elim
      | succ fu ih_43 =>
        intro v43_5 v43_4 H locs ls hf hW hl
        rw [rd_it_s] at hf
        unfold lb_K_zoneRowOf_43 at hf
        refine lv_iload hx hb d_K_zoneRowOf_43 (lv_at hl 0 rfl) ?_
        refine lv_bipush (v := 8) hx hb d_K_zoneRowOf_45 (by decide) ?_
        refine lv_icmp_ge (tgt := 86) hx hb d_K_zoneRowOf_47 (by decide) (fun c7 => ?_) (fun c7 => ?_)
        · have hf := rd_t hf c7
          exact hk_43 _ _ _ _ _ hf hW (lv_sub hl [0, 1, 2, 3, 4, 5] rfl)
        · have hf := rd_f hf c7
          refine lv_aload_n hx hb d_K_zoneRowOf_50 rfl (lv_at hl 3 rfl) ?_
          refine lv_iload_n hx hb d_K_zoneRowOf_51 rfl (lv_at hl 4 rfl) ?_
          refine lv_iload hx hb d_K_zoneRowOf_52 (lv_at hl 0 rfl) ?_
          obtain ⟨r8, qr8, hf⟩ := rd_bind hf
          refine rd_callV (As := [.int p1, .int v43_5]) (rest := []) rd_gd C9 hTh hW (c_K_showsAddress hls p1 v43_5 qr8) kc_K_showsAddress ki_K_showsAddress ks_K_showsAddress l_K_359 rfl (lt_K) (ce_K) rfl ⟨Nat.le_of_ble_eq_true rfl, Nat.le_of_ble_eq_true rfl⟩ ⟨Nat.le_of_ble_eq_true rfl, Nat.le_of_ble_eq_true rfl⟩ hl.1 rfl (Nat.le_of_ble_eq_true rfl) d_K_zoneRowOf_54 (fun E _ _ _ _ hex => hex.elim) (fun rr MM H locs hp hW => ?_)
          obtain ⟨rfl, rfl⟩ := hp
          refine lv_if_eq (tgt := 80) hx hb d_K_zoneRowOf_57 (by decide) (fun c9 => ?_) (fun c9 => ?_)
          · have hf := rd_t hf c9
            refine lv_iinc (v := v43_5 + 1) (lv' := [(5, .int (v43_5 + 1)), (4, .int v43_4), (3, .ref (ad (39 + 8 * p1.toNatClampNeg + 2 * 1))), (0, .ref (ad 0)), (1, .int p1), (2, .int p2)]) hx hb d_K_zoneRowOf_80 hl (k := 0) rfl rfl (by decide) rfl (fun ls hl => ?_)
            refine lv_goto (tgt := 43) hx hb d_K_zoneRowOf_83 (by decide) ?_
            exact ih_43 _ _ _ _ _ hf hW (lv_sub hl [0, 1, 2, 3, 4, 5] rfl)
          · have hf := rd_f hf c9
            refine lv_iload hx hb d_K_zoneRowOf_60 (lv_at hl 1 rfl) ?_
            refine lv_if_ne (tgt := 77) hx hb d_K_zoneRowOf_62 (by decide) (fun c10 => ?_) (fun c10 => ?_)
            · have hf := rd_f hf c10
              refine lv_iinc (v := v43_4 + (-1)) (lv' := [(4, .int (v43_4 + (-1))), (5, .int v43_5), (3, .ref (ad (39 + 8 * p1.toNatClampNeg + 2 * 1))), (0, .ref (ad 0)), (1, .int p1), (2, .int p2)]) hx hb d_K_zoneRowOf_77 hl (k := 1) rfl rfl (by decide) rfl (fun ls hl => ?_)
              refine lv_iinc (v := v43_5 + 1) (lv' := [(5, .int (v43_5 + 1)), (4, .int (v43_4 + (-1))), (3, .ref (ad (39 + 8 * p1.toNatClampNeg + 2 * 1))), (0, .ref (ad 0)), (1, .int p1), (2, .int p2)]) hx hb d_K_zoneRowOf_80 hl (k := 1) rfl rfl (by decide) rfl (fun ls hl => ?_)
              refine lv_goto (tgt := 43) hx hb d_K_zoneRowOf_83 (by decide) ?_
              exact ih_43 _ _ _ _ _ hf hW (lv_sub hl [0, 1, 2, 3, 4, 5] rfl)
            · have hf := rd_t hf c10
              refine lv_sipush (v := 1000) hx hb d_K_zoneRowOf_65 (by decide) ?_
              refine lv_iload_n hx hb d_K_zoneRowOf_68 rfl (lv_at hl 4 rfl) ?_
              refine lv_imul hx hb d_K_zoneRowOf_69 ?_
              refine lv_bipush (v := 100) hx hb d_K_zoneRowOf_70 (by decide) ?_
              refine lv_iadd hx hb d_K_zoneRowOf_72 ?_
              refine lv_iload hx hb d_K_zoneRowOf_73 (lv_at hl 0 rfl) ?_
              refine lv_iadd hx hb d_K_zoneRowOf_75 ?_
              obtain rfl := Option.some.inj hf
              exact rd_iret C9 hlk hret hW ⟨rfl, rfl⟩ (by decide) (by decide) d_K_zoneRowOf_76
    refine loop_43 _ ?_ 64 _ _ _ _ _ hf hW (lv_sub hl [0, 1, 2, 3, 4, 5] rfl)
    intro w43_5 w43_4 H locs ls hf hW hl
    refine lv_iconst (v := (-1)) hx hb d_K_zoneRowOf_86 (by decide) ?_
    obtain rfl := Option.some.inj hf
    exact rd_iret C9 hlk hret hW ⟨rfl, rfl⟩ (by decide) (by decide) d_K_zoneRowOf_87
  · have hf := rd_f hf c2
    refine lv_sipush (v := 1000) hx hb d_K_zoneRowOf_20 (by decide) ?_
    refine lv_iload_n hx hb d_K_zoneRowOf_23 rfl (lv_at hl 2 rfl) ?_
    refine lv_imul hx hb d_K_zoneRowOf_24 ?_
    refine lv_aload_n hx hb d_K_zoneRowOf_25 rfl (lv_at hl 0 rfl) ?_
    refine lv_iload_n hx hb d_K_zoneRowOf_26 rfl (lv_at hl 3 rfl) ?_
    obtain ⟨r11, qr11, hf⟩ := rd_bind hf
    refine rd_callV (As := [.int p2]) (rest := [.int (1000 * p1)]) rd_gd C9 hTh hW (c_R_at hls p1.toNatClampNeg 1 p2 (rd_lt g1) (by decide) qr11) kc_R_at ki_R_at ks_R_at l_K_249 rfl (lt_R (rd_lt g1) (by decide)) (ce_R (rd_lt g1) (by decide)) rfl ⟨Nat.le_of_ble_eq_true rfl, Nat.le_of_ble_eq_true rfl⟩ ⟨Nat.le_of_ble_eq_true rfl, Nat.le_of_ble_eq_true rfl⟩ hl.1 rfl (Nat.le_of_ble_eq_true rfl) d_K_zoneRowOf_27 (fun E _ _ _ _ hex => hex.elim) (fun rr MM H locs hp hW => ?_)
    obtain ⟨rfl, rfl⟩ := hp
    refine lv_iadd hx hb d_K_zoneRowOf_30 ?_
    obtain rfl := Option.some.inj hf
    exact rd_iret C9 hlk hret hW ⟨rfl, rfl⟩ (by decide) (by decide) d_K_zoneRowOf_31
def lb_K_zoneRow_4 (M : rd_M) (q1 : Int32) (Kf : Int32 → Int32 → Option (Int32)) (rec : Int32 → Int32 → Option (Int32)) (v4_3 : Int32) (v4_2 : Int32) : Option (Int32) :=
  if 10 ≤ v4_3 then
    Kf v4_3 v4_2
  else
    (f_K_zoneRowsOf M v4_3).bind fun r2 =>
    if r2 ≤ v4_2 then
      rec (v4_3 + 1) (v4_2 - r2)
    else
      (f_K_zoneRowOf M v4_3 v4_2).bind fun r4 =>
      some r4
def f_K_zoneRow (M : rd_M) (p1 : Int32) : Option (Int32) :=
  rd_it (fun _ _ => none) (lb_K_zoneRow_4 M p1 (fun w4_3 w4_2 =>
    some (-1))) 64 0 p1
set_option maxRecDepth 100000 in
set_option maxHeartbeats 4000000 in
theorem c_K_zoneRow {l : Launch} (hls : l.stackTraces = false) {D : va_G} {Ka : Nat → ClassId} {ad : Nat → Nat} {M : rd_M} (p1 : Int32)  {o : Int32} (hf : f_K_zoneRow M p1 = some o) :
    rd_Met l y_K_zoneRow b_K_zoneRow 5 (some .int) (5, 115, 0, 0) rd_T rd_ss D rd_cl (rd_ty Ka) (dk_L Ka) ad M [.ref (ad 0), .int p1] (fun r M1 => r = some (.int o) ∧ M = M1) (fun _ => False) := by
  refine rd_body (by decide) (Nat.le_of_ble_eq_true rfl) ?_
  intro p e s m below meth c C9 hlk hret hnt hTh hW ls hl
  have hx := C9.1.1
  have hb := C9.1.2.1
  have hl : lv_has ls 5 [(0, .ref (ad 0)), (1, .int p1)] := hl
  unfold f_K_zoneRow at hf
  refine lv_iload_n hx hb d_K_zoneRow_0 rfl (lv_at hl 1 rfl) ?_
  refine lv_istore_n (lv' := [(2, .int p1), (0, .ref (ad 0)), (1, .int p1)]) hx hb d_K_zoneRow_1 rfl hl (by decide) rfl (fun ls hl => ?_)
  refine lv_iconst (v := 0) hx hb d_K_zoneRow_2 (by decide) ?_
  refine lv_istore_n (lv' := [(3, .int 0), (2, .int p1), (0, .ref (ad 0)), (1, .int p1)]) hx hb d_K_zoneRow_3 rfl hl (by decide) rfl (fun ls hl => ?_)
  have loop_4 : ∀ (Kf : Int32 → Int32 → Option (Int32)) (hk_4 : ∀ (w4_3 : Int32) (w4_2 : Int32) (H : Heap) (locs : List Loc) (ls : Array Slot), Kf w4_3 w4_2 = some o → rd_W D rd_cl (dk_L Ka) ad (rd_A (dk_L Ka) ad s.heap.size) s.heap M H locs → lv_has ls 5 [(3, .int w4_3), (2, .int w4_2), (0, .ref (ad 0)), (1, .int p1)] → W p l e { frames := 5, cells := 0, slots := 0, locals := 115 } s m [.ref (ad 0), .int p1].toArray below meth c H locs 0 0 (rd_Z below (rd_O D rd_cl (dk_L Ka) ad M (rd_A (dk_L Ka) ad s.heap.size) 0 0 (fun r M1 => r = some (.int o) ∧ M = M1) (fun _ => False)) s) (F0 m 41 ls [])) (fu : Nat) (v4_3 : Int32) (v4_2 : Int32) (H : Heap) (locs : List Loc) (ls : Array Slot), rd_it (fun _ _ => none) (lb_K_zoneRow_4 M p1 Kf) fu v4_3 v4_2 = some o → rd_W D rd_cl (dk_L Ka) ad (rd_A (dk_L Ka) ad s.heap.size) s.heap M H locs → lv_has ls 5 [(3, .int v4_3), (2, .int v4_2), (0, .ref (ad 0)), (1, .int p1)] → W p l e { frames := 5, cells := 0, slots := 0, locals := 115 } s m [.ref (ad 0), .int p1].toArray below meth c H locs 0 0 (rd_Z below (rd_O D rd_cl (dk_L Ka) ad M (rd_A (dk_L Ka) ad s.heap.size) 0 0 (fun r M1 => r = some (.int o) ∧ M = M1) (fun _ => False)) s) (F0 m 4 ls []) := by
    intro Kf hk_4 fu
    induction fu with
    | zero => intro _ _ H locs ls hf; exact (rd_nf hf).elim
    | succ fu ih_4 =>
      intro v4_3 v4_2 H locs ls hf hW hl
      rw [rd_it_s] at hf
      unfold lb_K_zoneRow_4 at hf
      refine lv_iload_n hx hb d_K_zoneRow_4 rfl (lv_at hl 0 rfl) ?_
      refine lv_bipush (v := 10) hx hb d_K_zoneRow_5 (by decide) ?_
      refine lv_icmp_ge (tgt := 41) hx hb d_K_zoneRow_7 (by decide) (fun c5 => ?_) (fun c5 => ?_)
      · have hf := rd_t hf c5
        exact hk_4 _ _ _ _ _ hf hW (lv_sub hl [0, 1, 2, 3] rfl)
      · have hf := rd_f hf c5
        refine lv_aload_n hx hb d_K_zoneRow_10 rfl (lv_at hl 2 rfl) ?_
        refine lv_iload_n hx hb d_K_zoneRow_11 rfl (lv_at hl 0 rfl) ?_
        obtain ⟨r6, qr6, hf⟩ := rd_bind hf
        refine rd_callV (As := [.int v4_3]) (rest := []) rd_gd C9 hTh hW (c_K_zoneRowsOf hls v4_3 qr6) kc_K_zoneRowsOf ki_K_zoneRowsOf ks_K_zoneRowsOf l_K_349 rfl (lt_K) (ce_K) rfl ⟨Nat.le_of_ble_eq_true rfl, Nat.le_of_ble_eq_true rfl⟩ ⟨Nat.le_of_ble_eq_true rfl, Nat.le_of_ble_eq_true rfl⟩ hl.1 rfl (Nat.le_of_ble_eq_true rfl) d_K_zoneRow_12 (fun E _ _ _ _ hex => hex.elim) (fun rr MM H locs hp hW => ?_)
        obtain ⟨rfl, rfl⟩ := hp
        refine lv_istore (lv' := [(4, .int r6), (3, .int v4_3), (2, .int v4_2), (0, .ref (ad 0)), (1, .int p1)]) hx hb d_K_zoneRow_15 hl (by decide) rfl (fun ls hl => ?_)
        refine lv_iload_n hx hb d_K_zoneRow_17 rfl (lv_at hl 2 rfl) ?_
        refine lv_iload hx hb d_K_zoneRow_18 (lv_at hl 0 rfl) ?_
        refine lv_icmp_ge (tgt := 30) hx hb d_K_zoneRow_20 (by decide) (fun c7 => ?_) (fun c7 => ?_)
        · have hf := rd_t hf c7
          refine lv_iload_n hx hb d_K_zoneRow_30 rfl (lv_at hl 2 rfl) ?_
          refine lv_iload hx hb d_K_zoneRow_31 (lv_at hl 0 rfl) ?_
          refine lv_isub hx hb d_K_zoneRow_33 ?_
          refine lv_istore_n (lv' := [(2, .int (v4_2 - r6)), (4, .int r6), (3, .int v4_3), (0, .ref (ad 0)), (1, .int p1)]) hx hb d_K_zoneRow_34 rfl hl (by decide) rfl (fun ls hl => ?_)
          refine lv_iinc (v := v4_3 + 1) (lv' := [(3, .int (v4_3 + 1)), (2, .int (v4_2 - r6)), (4, .int r6), (0, .ref (ad 0)), (1, .int p1)]) hx hb d_K_zoneRow_35 hl (k := 2) rfl rfl (by decide) rfl (fun ls hl => ?_)
          refine lv_goto (tgt := 4) hx hb d_K_zoneRow_38 (by decide) ?_
          exact ih_4 _ _ _ _ _ hf hW (lv_sub hl [0, 1, 3, 4] rfl)
        · have hf := rd_f hf c7
          refine lv_aload_n hx hb d_K_zoneRow_23 rfl (lv_at hl 3 rfl) ?_
          refine lv_iload_n hx hb d_K_zoneRow_24 rfl (lv_at hl 1 rfl) ?_
          refine lv_iload_n hx hb d_K_zoneRow_25 rfl (lv_at hl 2 rfl) ?_
          obtain ⟨r8, qr8, hf⟩ := rd_bind hf
          refine rd_callV (As := [.int v4_3, .int v4_2]) (rest := []) rd_gd C9 hTh hW (c_K_zoneRowOf hls v4_3 v4_2 qr8) kc_K_zoneRowOf ki_K_zoneRowOf ks_K_zoneRowOf l_K_352 rfl (lt_K) (ce_K) rfl ⟨Nat.le_of_ble_eq_true rfl, Nat.le_of_ble_eq_true rfl⟩ ⟨Nat.le_of_ble_eq_true rfl, Nat.le_of_ble_eq_true rfl⟩ hl.1 rfl (Nat.le_of_ble_eq_true rfl) d_K_zoneRow_26 (fun E _ _ _ _ hex => hex.elim) (fun rr MM H locs hp hW => ?_)
          obtain ⟨rfl, rfl⟩ := hp
          obtain rfl := Option.some.inj hf
          exact rd_iret C9 hlk hret hW ⟨rfl, rfl⟩ (by decide) (by decide) d_K_zoneRow_29
  refine loop_4 _ ?_ 64 _ _ _ _ _ hf hW (lv_sub hl [0, 1, 2, 3] rfl)
  intro w4_3 w4_2 H locs ls hf hW hl
  refine lv_iconst (v := (-1)) hx hb d_K_zoneRow_41 (by decide) ?_
  obtain rfl := Option.some.inj hf
  exact rd_iret C9 hlk hret hW ⟨rfl, rfl⟩ (by decide) (by decide) d_K_zoneRow_42
def f_K_zone (M : rd_M) (p1 : Int32) : Option (String ⊕ Int32) :=
  if p1 < 0 then
    if (-1 : Int32) = (-1) then
      some (.inl "java/util/NoSuchElementException")
    else
      some (.inr (-1))
  else
    (f_K_zoneRow M p1).bind fun r3 =>
    if r3 = (-1) then
      some (.inl "java/util/NoSuchElementException")
    else
      some (.inr r3)
set_option maxRecDepth 100000 in
set_option maxHeartbeats 4000000 in
theorem c_K_zone {l : Launch} (hls : l.stackTraces = false) {D : va_G} {Ka : Nat → ClassId} {ad : Nat → Nat} {M : rd_M} (p1 : Int32)  {o : String ⊕ Int32} (hf : f_K_zone M p1 = some o) :
    rd_Met l y_K_zone b_K_zone 3 (some .int) (6, 139, 1, 6) rd_T rd_ss D rd_cl (rd_ty Ka) (dk_L Ka) ad M [.ref (ad 0), .int p1] (fun r M1 => ∃ v, o = .inr v ∧ r = some (.int v) ∧ M = M1) (fun E => o = .inl E) := by
  refine rd_body (by decide) (Nat.le_of_ble_eq_true rfl) ?_
  intro p e s m below meth c C9 hlk hret hnt hTh hW ls hl
  have hx := C9.1.1
  have hb := C9.1.2.1
  have hl : lv_has ls 3 [(0, .ref (ad 0)), (1, .int p1)] := hl
  unfold f_K_zone at hf
  refine lv_iload_n hx hb d_K_zone_0 rfl (lv_at hl 1 rfl) ?_
  refine lv_if_lt (tgt := 12) hx hb d_K_zone_1 (by decide) (fun c1 => ?_) (fun c1 => ?_)
  · have hf := rd_t hf c1
    refine lv_iconst (v := (-1)) hx hb d_K_zone_12 (by decide) ?_
    refine lv_istore_n (lv' := [(2, .int (-1)), (0, .ref (ad 0)), (1, .int p1)]) hx hb d_K_zone_13 rfl hl (by decide) rfl (fun ls hl => ?_)
    refine lv_iload_n hx hb d_K_zone_14 rfl (lv_at hl 0 rfl) ?_
    refine lv_iconst (v := (-1)) hx hb d_K_zone_15 (by decide) ?_
    refine lv_icmp_ne (tgt := 30) hx hb d_K_zone_16 (by decide) (fun c2 => ?_) (fun c2 => ?_)
    · have hf := rd_f hf c2
      refine lv_iload_n hx hb d_K_zone_30 rfl (lv_at hl 0 rfl) ?_
      obtain rfl := Option.some.inj hf
      exact rd_iret C9 hlk hret hW ⟨_, rfl, rfl, rfl⟩ (by decide) (by decide) d_K_zone_31
    · have hf := rd_t hf c2
      obtain rfl := Option.some.inj hf
      exact rd_throwXW (text := "the zone has no such row") (Y1 := "java/lang/RuntimeException") (names := ["java/lang/Exception"]) hls C9 hnt hlk hTh hW hl.1 dn_0 dn_1 dn_2 dn_5 (by decide) rd_gd (by decide) (by decide) l_K_202 in_NoSuchElementException (List.mem_of_getElem? (i := 21) rfl) ta_K_NoSuchElementException d_K_zone_19 d_K_zone_22 d_K_zone_23 d_K_zone_26 d_K_zone_29 (Nat.le_of_ble_eq_true rfl) (Nat.le_of_ble_eq_true rfl) (Nat.le_of_ble_eq_true rfl) (Nat.le_of_ble_eq_true rfl) rfl (Nat.le_of_ble_eq_true rfl) (Nat.le_of_ble_eq_true rfl)
  · have hf := rd_f hf c1
    refine lv_aload_n hx hb d_K_zone_4 rfl (lv_at hl 0 rfl) ?_
    refine lv_iload_n hx hb d_K_zone_5 rfl (lv_at hl 1 rfl) ?_
    obtain ⟨r3, qr3, hf⟩ := rd_bind hf
    refine rd_callV (As := [.int p1]) (rest := []) rd_gd C9 hTh hW (c_K_zoneRow hls p1 qr3) kc_K_zoneRow ki_K_zoneRow ks_K_zoneRow l_K_258 rfl (lt_K) (ce_K) rfl ⟨Nat.le_of_ble_eq_true rfl, Nat.le_of_ble_eq_true rfl⟩ ⟨Nat.le_of_ble_eq_true rfl, Nat.le_of_ble_eq_true rfl⟩ hl.1 rfl (Nat.le_of_ble_eq_true rfl) d_K_zone_6 (fun E _ _ _ _ hex => hex.elim) (fun rr MM H locs hp hW => ?_)
    obtain ⟨rfl, rfl⟩ := hp
    refine lv_goto (tgt := 13) hx hb d_K_zone_9 (by decide) ?_
    refine lv_istore_n (lv' := [(2, .int r3), (0, .ref (ad 0)), (1, .int p1)]) hx hb d_K_zone_13 rfl hl (by decide) rfl (fun ls hl => ?_)
    refine lv_iload_n hx hb d_K_zone_14 rfl (lv_at hl 0 rfl) ?_
    refine lv_iconst (v := (-1)) hx hb d_K_zone_15 (by decide) ?_
    refine lv_icmp_ne (tgt := 30) hx hb d_K_zone_16 (by decide) (fun c4 => ?_) (fun c4 => ?_)
    · have hf := rd_f hf c4
      refine lv_iload_n hx hb d_K_zone_30 rfl (lv_at hl 0 rfl) ?_
      obtain rfl := Option.some.inj hf
      exact rd_iret C9 hlk hret hW ⟨_, rfl, rfl, rfl⟩ (by decide) (by decide) d_K_zone_31
    · have hf := rd_t hf c4
      obtain rfl := Option.some.inj hf
      exact rd_throwXW (text := "the zone has no such row") (Y1 := "java/lang/RuntimeException") (names := ["java/lang/Exception"]) hls C9 hnt hlk hTh hW hl.1 dn_0 dn_1 dn_2 dn_5 (by decide) rd_gd (by decide) (by decide) l_K_202 in_NoSuchElementException (List.mem_of_getElem? (i := 21) rfl) ta_K_NoSuchElementException d_K_zone_19 d_K_zone_22 d_K_zone_23 d_K_zone_26 d_K_zone_29 (Nat.le_of_ble_eq_true rfl) (Nat.le_of_ble_eq_true rfl) (Nat.le_of_ble_eq_true rfl) (Nat.le_of_ble_eq_true rfl) rfl (Nat.le_of_ble_eq_true rfl) (Nat.le_of_ble_eq_true rfl)
def lb_K_domainsThere_4 (M : rd_M) (Kf : Int32 → Int32 → Option (Int32)) (rec : Int32 → Int32 → Option (Int32)) (v4_2 : Int32) (v4_1 : Int32) : Option (Int32) :=
  if 10 ≤ v4_2 then
    Kf v4_2 v4_1
  else
    if rd_in v4_2 10 then
    if ((M (37 + 8 * v4_2.toNatClampNeg)).1 3) = 0 then
      rec (v4_2 + 1) v4_1
    else
      rec (v4_2 + 1) (v4_1 + 1)
    else none
def f_K_domainsThere (M : rd_M) : Option (Int32) :=
  rd_it (fun _ _ => none) (lb_K_domainsThere_4 M (fun w4_2 w4_1 =>
    some w4_1)) 64 0 0
set_option maxRecDepth 100000 in
set_option maxHeartbeats 4000000 in
theorem c_K_domainsThere {l : Launch} (hls : l.stackTraces = false) {D : va_G} {Ka : Nat → ClassId} {ad : Nat → Nat} {M : rd_M}   {o : Int32} (hf : f_K_domainsThere M = some o) :
    rd_Met l y_K_domainsThere b_K_domainsThere 3 (some .int) (0, 0, 0, 0) rd_T rd_ss D rd_cl (rd_ty Ka) (dk_L Ka) ad M [.ref (ad 0)] (fun r M1 => r = some (.int o) ∧ M = M1) (fun _ => False) := by
  refine rd_body (by decide) (Nat.le_of_ble_eq_true rfl) ?_
  intro p e s m below meth c C9 hlk hret hnt hTh hW ls hl
  have hx := C9.1.1
  have hb := C9.1.2.1
  have hl : lv_has ls 3 [(0, .ref (ad 0))] := hl
  unfold f_K_domainsThere at hf
  refine lv_iconst (v := 0) hx hb d_K_domainsThere_0 (by decide) ?_
  refine lv_istore_n (lv' := [(1, .int 0), (0, .ref (ad 0))]) hx hb d_K_domainsThere_1 rfl hl (by decide) rfl (fun ls hl => ?_)
  refine lv_iconst (v := 0) hx hb d_K_domainsThere_2 (by decide) ?_
  refine lv_istore_n (lv' := [(2, .int 0), (1, .int 0), (0, .ref (ad 0))]) hx hb d_K_domainsThere_3 rfl hl (by decide) rfl (fun ls hl => ?_)
  have loop_4 : ∀ (Kf : Int32 → Int32 → Option (Int32)) (hk_4 : ∀ (w4_2 : Int32) (w4_1 : Int32) (H : Heap) (locs : List Loc) (ls : Array Slot), Kf w4_2 w4_1 = some o → rd_W D rd_cl (dk_L Ka) ad (rd_A (dk_L Ka) ad s.heap.size) s.heap M H locs → lv_has ls 3 [(2, .int w4_2), (1, .int w4_1), (0, .ref (ad 0))] → W p l e { frames := 0, cells := 0, slots := 0, locals := 0 } s m [.ref (ad 0)].toArray below meth c H locs 0 0 (rd_Z below (rd_O D rd_cl (dk_L Ka) ad M (rd_A (dk_L Ka) ad s.heap.size) 0 0 (fun r M1 => r = some (.int o) ∧ M = M1) (fun _ => False)) s) (F0 m 31 ls [])) (fu : Nat) (v4_2 : Int32) (v4_1 : Int32) (H : Heap) (locs : List Loc) (ls : Array Slot), rd_it (fun _ _ => none) (lb_K_domainsThere_4 M Kf) fu v4_2 v4_1 = some o → rd_W D rd_cl (dk_L Ka) ad (rd_A (dk_L Ka) ad s.heap.size) s.heap M H locs → lv_has ls 3 [(2, .int v4_2), (1, .int v4_1), (0, .ref (ad 0))] → W p l e { frames := 0, cells := 0, slots := 0, locals := 0 } s m [.ref (ad 0)].toArray below meth c H locs 0 0 (rd_Z below (rd_O D rd_cl (dk_L Ka) ad M (rd_A (dk_L Ka) ad s.heap.size) 0 0 (fun r M1 => r = some (.int o) ∧ M = M1) (fun _ => False)) s) (F0 m 4 ls []) := by
    intro Kf hk_4 fu
    induction fu with
    | zero => intro _ _ H locs ls hf; exact (rd_nf hf).elim
    | succ fu ih_4 =>
      intro v4_2 v4_1 H locs ls hf hW hl
      rw [rd_it_s] at hf
      unfold lb_K_domainsThere_4 at hf
      refine lv_iload_n hx hb d_K_domainsThere_4 rfl (lv_at hl 0 rfl) ?_
      refine lv_bipush (v := 10) hx hb d_K_domainsThere_5 (by decide) ?_
      refine lv_icmp_ge (tgt := 31) hx hb d_K_domainsThere_7 (by decide) (fun c4 => ?_) (fun c4 => ?_)
      · have hf := rd_t hf c4
        exact hk_4 _ _ _ _ _ hf hW (lv_sub hl [0, 1, 2] rfl)
      · have hf := rd_f hf c4
        refine lv_aload_n hx hb d_K_domainsThere_10 rfl (lv_at hl 2 rfl) ?_
        refine gf_K_domains C9 hW l_K_29 d_K_domainsThere_11 ?_
        refine lv_iload_n hx hb d_K_domainsThere_14 rfl (lv_at hl 0 rfl) ?_
        obtain ⟨g5, hf⟩ := rd_g hf
        refine al_domains C9 hW rfl g5 d_K_domainsThere_15 ?_
        refine gf_D_there C9 hW (rd_lt g5) l_K_105 d_K_domainsThere_16 ?_
        refine lv_if_eq (tgt := 25) hx hb d_K_domainsThere_19 (by decide) (fun c6 => ?_) (fun c6 => ?_)
        · have hf := rd_t hf c6
          refine lv_iinc (v := v4_2 + 1) (lv' := [(2, .int (v4_2 + 1)), (1, .int v4_1), (0, .ref (ad 0))]) hx hb d_K_domainsThere_25 hl (k := 0) rfl rfl (by decide) rfl (fun ls hl => ?_)
          refine lv_goto (tgt := 4) hx hb d_K_domainsThere_28 (by decide) ?_
          exact ih_4 _ _ _ _ _ hf hW (lv_sub hl [0, 1, 2] rfl)
        · have hf := rd_f hf c6
          refine lv_iinc (v := v4_1 + 1) (lv' := [(1, .int (v4_1 + 1)), (2, .int v4_2), (0, .ref (ad 0))]) hx hb d_K_domainsThere_22 hl (k := 1) rfl rfl (by decide) rfl (fun ls hl => ?_)
          refine lv_iinc (v := v4_2 + 1) (lv' := [(2, .int (v4_2 + 1)), (1, .int (v4_1 + 1)), (0, .ref (ad 0))]) hx hb d_K_domainsThere_25 hl (k := 1) rfl rfl (by decide) rfl (fun ls hl => ?_)
          refine lv_goto (tgt := 4) hx hb d_K_domainsThere_28 (by decide) ?_
          exact ih_4 _ _ _ _ _ hf hW (lv_sub hl [0, 1, 2] rfl)
  refine loop_4 _ ?_ 64 _ _ _ _ _ hf hW (lv_sub hl [0, 1, 2] rfl)
  intro w4_2 w4_1 H locs ls hf hW hl
  refine lv_iload_n hx hb d_K_domainsThere_31 rfl (lv_at hl 1 rfl) ?_
  obtain rfl := Option.some.inj hf
  exact rd_iret C9 hlk hret hW ⟨rfl, rfl⟩ (by decide) (by decide) d_K_domainsThere_32
def lb_K_messagesOfAll_4 (M : rd_M) (Kf : Int32 → Int32 → Option (Int32)) (rec : Int32 → Int32 → Option (Int32)) (v4_2 : Int32) (v4_1 : Int32) : Option (Int32) :=
  if 4 ≤ v4_2 then
    Kf v4_2 v4_1
  else
    if rd_in v4_2 4 then
    rec (v4_2 + 1) (v4_1 + ((M (3 + 3 * v4_2.toNatClampNeg)).1 3))
    else none
def f_K_messagesOfAll (M : rd_M) : Option (Int32) :=
  rd_it (fun _ _ => none) (lb_K_messagesOfAll_4 M (fun w4_2 w4_1 =>
    some w4_1)) 64 0 0
set_option maxRecDepth 100000 in
set_option maxHeartbeats 4000000 in
theorem c_K_messagesOfAll {l : Launch} (hls : l.stackTraces = false) {D : va_G} {Ka : Nat → ClassId} {ad : Nat → Nat} {M : rd_M}   {o : Int32} (hf : f_K_messagesOfAll M = some o) :
    rd_Met l y_K_messagesOfAll b_K_messagesOfAll 3 (some .int) (0, 0, 0, 0) rd_T rd_ss D rd_cl (rd_ty Ka) (dk_L Ka) ad M [.ref (ad 0)] (fun r M1 => r = some (.int o) ∧ M = M1) (fun _ => False) := by
  refine rd_body (by decide) (Nat.le_of_ble_eq_true rfl) ?_
  intro p e s m below meth c C9 hlk hret hnt hTh hW ls hl
  have hx := C9.1.1
  have hb := C9.1.2.1
  have hl : lv_has ls 3 [(0, .ref (ad 0))] := hl
  unfold f_K_messagesOfAll at hf
  refine lv_iconst (v := 0) hx hb d_K_messagesOfAll_0 (by decide) ?_
  refine lv_istore_n (lv' := [(1, .int 0), (0, .ref (ad 0))]) hx hb d_K_messagesOfAll_1 rfl hl (by decide) rfl (fun ls hl => ?_)
  refine lv_iconst (v := 0) hx hb d_K_messagesOfAll_2 (by decide) ?_
  refine lv_istore_n (lv' := [(2, .int 0), (1, .int 0), (0, .ref (ad 0))]) hx hb d_K_messagesOfAll_3 rfl hl (by decide) rfl (fun ls hl => ?_)
  have loop_4 : ∀ (Kf : Int32 → Int32 → Option (Int32)) (hk_4 : ∀ (w4_2 : Int32) (w4_1 : Int32) (H : Heap) (locs : List Loc) (ls : Array Slot), Kf w4_2 w4_1 = some o → rd_W D rd_cl (dk_L Ka) ad (rd_A (dk_L Ka) ad s.heap.size) s.heap M H locs → lv_has ls 3 [(2, .int w4_2), (1, .int w4_1), (0, .ref (ad 0))] → W p l e { frames := 0, cells := 0, slots := 0, locals := 0 } s m [.ref (ad 0)].toArray below meth c H locs 0 0 (rd_Z below (rd_O D rd_cl (dk_L Ka) ad M (rd_A (dk_L Ka) ad s.heap.size) 0 0 (fun r M1 => r = some (.int o) ∧ M = M1) (fun _ => False)) s) (F0 m 27 ls [])) (fu : Nat) (v4_2 : Int32) (v4_1 : Int32) (H : Heap) (locs : List Loc) (ls : Array Slot), rd_it (fun _ _ => none) (lb_K_messagesOfAll_4 M Kf) fu v4_2 v4_1 = some o → rd_W D rd_cl (dk_L Ka) ad (rd_A (dk_L Ka) ad s.heap.size) s.heap M H locs → lv_has ls 3 [(2, .int v4_2), (1, .int v4_1), (0, .ref (ad 0))] → W p l e { frames := 0, cells := 0, slots := 0, locals := 0 } s m [.ref (ad 0)].toArray below meth c H locs 0 0 (rd_Z below (rd_O D rd_cl (dk_L Ka) ad M (rd_A (dk_L Ka) ad s.heap.size) 0 0 (fun r M1 => r = some (.int o) ∧ M = M1) (fun _ => False)) s) (F0 m 4 ls []) := by
    intro Kf hk_4 fu
    induction fu with
    | zero => intro _ _ H locs ls hf; exact (rd_nf hf).elim
    | succ fu ih_4 =>
      intro v4_2 v4_1 H locs ls hf hW hl
      rw [rd_it_s] at hf
      unfold lb_K_messagesOfAll_4 at hf
      refine lv_iload_n hx hb d_K_messagesOfAll_4 rfl (lv_at hl 0 rfl) ?_
      refine lv_iconst (v := 4) hx hb d_K_messagesOfAll_5 (by decide) ?_
      refine lv_icmp_ge (tgt := 27) hx hb d_K_messagesOfAll_6 (by decide) (fun c3 => ?_) (fun c3 => ?_)
      · have hf := rd_t hf c3
        exact hk_4 _ _ _ _ _ hf hW (lv_sub hl [0, 1, 2] rfl)
      · have hf := rd_f hf c3
        refine lv_iload_n hx hb d_K_messagesOfAll_9 rfl (lv_at hl 1 rfl) ?_
        refine lv_aload_n hx hb d_K_messagesOfAll_10 rfl (lv_at hl 2 rfl) ?_
        refine gf_K_accounts C9 hW l_K_15 d_K_messagesOfAll_11 ?_
        refine lv_iload_n hx hb d_K_messagesOfAll_14 rfl (lv_at hl 0 rfl) ?_
        obtain ⟨g4, hf⟩ := rd_g hf
        refine al_accounts C9 hW rfl g4 d_K_messagesOfAll_15 ?_
        refine gf_A_messageCount C9 hW (rd_lt g4) l_K_236 d_K_messagesOfAll_16 ?_
        refine lv_iadd hx hb d_K_messagesOfAll_19 ?_
        refine lv_istore_n (lv' := [(1, .int (v4_1 + ((M (3 + 3 * v4_2.toNatClampNeg)).1 3))), (2, .int v4_2), (0, .ref (ad 0))]) hx hb d_K_messagesOfAll_20 rfl hl (by decide) rfl (fun ls hl => ?_)
        refine lv_iinc (v := v4_2 + 1) (lv' := [(2, .int (v4_2 + 1)), (1, .int (v4_1 + ((M (3 + 3 * v4_2.toNatClampNeg)).1 3))), (0, .ref (ad 0))]) hx hb d_K_messagesOfAll_21 hl (k := 1) rfl rfl (by decide) rfl (fun ls hl => ?_)
        refine lv_goto (tgt := 4) hx hb d_K_messagesOfAll_24 (by decide) ?_
        exact ih_4 _ _ _ _ _ hf hW (lv_sub hl [0, 1, 2] rfl)
  refine loop_4 _ ?_ 64 _ _ _ _ _ hf hW (lv_sub hl [0, 1, 2] rfl)
  intro w4_2 w4_1 H locs ls hf hW hl
  refine lv_iload_n hx hb d_K_messagesOfAll_27 rfl (lv_at hl 1 rfl) ?_
  obtain rfl := Option.some.inj hf
  exact rd_iret C9 hlk hret hW ⟨rfl, rfl⟩ (by decide) (by decide) d_K_messagesOfAll_28
def lb_K_zoneRows_4 (M : rd_M) (Kf : Int32 → Int32 → Option (Int32)) (rec : Int32 → Int32 → Option (Int32)) (v4_2 : Int32) (v4_1 : Int32) : Option (Int32) :=
  if 10 ≤ v4_2 then
    Kf v4_2 v4_1
  else
    (f_K_zoneRowsOf M v4_2).bind fun r2 =>
    rec (v4_2 + 1) (v4_1 + r2)
def f_K_zoneRows (M : rd_M) : Option (Int32) :=
  rd_it (fun _ _ => none) (lb_K_zoneRows_4 M (fun w4_2 w4_1 =>
    some w4_1)) 64 0 0
set_option maxRecDepth 100000 in
set_option maxHeartbeats 4000000 in
theorem c_K_zoneRows {l : Launch} (hls : l.stackTraces = false) {D : va_G} {Ka : Nat → ClassId} {ad : Nat → Nat} {M : rd_M}   {o : Int32} (hf : f_K_zoneRows M = some o) :
    rd_Met l y_K_zoneRows b_K_zoneRows 3 (some .int) (5, 113, 0, 0) rd_T rd_ss D rd_cl (rd_ty Ka) (dk_L Ka) ad M [.ref (ad 0)] (fun r M1 => r = some (.int o) ∧ M = M1) (fun _ => False) := by
  refine rd_body (by decide) (Nat.le_of_ble_eq_true rfl) ?_
  intro p e s m below meth c C9 hlk hret hnt hTh hW ls hl
  have hx := C9.1.1
  have hb := C9.1.2.1
  have hl : lv_has ls 3 [(0, .ref (ad 0))] := hl
  unfold f_K_zoneRows at hf
  refine lv_iconst (v := 0) hx hb d_K_zoneRows_0 (by decide) ?_
  refine lv_istore_n (lv' := [(1, .int 0), (0, .ref (ad 0))]) hx hb d_K_zoneRows_1 rfl hl (by decide) rfl (fun ls hl => ?_)
  refine lv_iconst (v := 0) hx hb d_K_zoneRows_2 (by decide) ?_
  refine lv_istore_n (lv' := [(2, .int 0), (1, .int 0), (0, .ref (ad 0))]) hx hb d_K_zoneRows_3 rfl hl (by decide) rfl (fun ls hl => ?_)
  have loop_4 : ∀ (Kf : Int32 → Int32 → Option (Int32)) (hk_4 : ∀ (w4_2 : Int32) (w4_1 : Int32) (H : Heap) (locs : List Loc) (ls : Array Slot), Kf w4_2 w4_1 = some o → rd_W D rd_cl (dk_L Ka) ad (rd_A (dk_L Ka) ad s.heap.size) s.heap M H locs → lv_has ls 3 [(2, .int w4_2), (1, .int w4_1), (0, .ref (ad 0))] → W p l e { frames := 5, cells := 0, slots := 0, locals := 113 } s m [.ref (ad 0)].toArray below meth c H locs 0 0 (rd_Z below (rd_O D rd_cl (dk_L Ka) ad M (rd_A (dk_L Ka) ad s.heap.size) 0 0 (fun r M1 => r = some (.int o) ∧ M = M1) (fun _ => False)) s) (F0 m 24 ls [])) (fu : Nat) (v4_2 : Int32) (v4_1 : Int32) (H : Heap) (locs : List Loc) (ls : Array Slot), rd_it (fun _ _ => none) (lb_K_zoneRows_4 M Kf) fu v4_2 v4_1 = some o → rd_W D rd_cl (dk_L Ka) ad (rd_A (dk_L Ka) ad s.heap.size) s.heap M H locs → lv_has ls 3 [(2, .int v4_2), (1, .int v4_1), (0, .ref (ad 0))] → W p l e { frames := 5, cells := 0, slots := 0, locals := 113 } s m [.ref (ad 0)].toArray below meth c H locs 0 0 (rd_Z below (rd_O D rd_cl (dk_L Ka) ad M (rd_A (dk_L Ka) ad s.heap.size) 0 0 (fun r M1 => r = some (.int o) ∧ M = M1) (fun _ => False)) s) (F0 m 4 ls []) := by
    intro Kf hk_4 fu
    induction fu with
    | zero => intro _ _ H locs ls hf; exact (rd_nf hf).elim
    | succ fu ih_4 =>
      intro v4_2 v4_1 H locs ls hf hW hl
      rw [rd_it_s] at hf
      unfold lb_K_zoneRows_4 at hf
      refine lv_iload_n hx hb d_K_zoneRows_4 rfl (lv_at hl 0 rfl) ?_
      refine lv_bipush (v := 10) hx hb d_K_zoneRows_5 (by decide) ?_
      refine lv_icmp_ge (tgt := 24) hx hb d_K_zoneRows_7 (by decide) (fun c3 => ?_) (fun c3 => ?_)
      · have hf := rd_t hf c3
        exact hk_4 _ _ _ _ _ hf hW (lv_sub hl [0, 1, 2] rfl)
      · have hf := rd_f hf c3
        refine lv_iload_n hx hb d_K_zoneRows_10 rfl (lv_at hl 1 rfl) ?_
        refine lv_aload_n hx hb d_K_zoneRows_11 rfl (lv_at hl 2 rfl) ?_
        refine lv_iload_n hx hb d_K_zoneRows_12 rfl (lv_at hl 0 rfl) ?_
        obtain ⟨r4, qr4, hf⟩ := rd_bind hf
        refine rd_callV (As := [.int v4_2]) (rest := [.int v4_1]) rd_gd C9 hTh hW (c_K_zoneRowsOf hls v4_2 qr4) kc_K_zoneRowsOf ki_K_zoneRowsOf ks_K_zoneRowsOf l_K_349 rfl (lt_K) (ce_K) rfl ⟨Nat.le_of_ble_eq_true rfl, Nat.le_of_ble_eq_true rfl⟩ ⟨Nat.le_of_ble_eq_true rfl, Nat.le_of_ble_eq_true rfl⟩ hl.1 rfl (Nat.le_of_ble_eq_true rfl) d_K_zoneRows_13 (fun E _ _ _ _ hex => hex.elim) (fun rr MM H locs hp hW => ?_)
        obtain ⟨rfl, rfl⟩ := hp
        refine lv_iadd hx hb d_K_zoneRows_16 ?_
        refine lv_istore_n (lv' := [(1, .int (v4_1 + r4)), (2, .int v4_2), (0, .ref (ad 0))]) hx hb d_K_zoneRows_17 rfl hl (by decide) rfl (fun ls hl => ?_)
        refine lv_iinc (v := v4_2 + 1) (lv' := [(2, .int (v4_2 + 1)), (1, .int (v4_1 + r4)), (0, .ref (ad 0))]) hx hb d_K_zoneRows_18 hl (k := 1) rfl rfl (by decide) rfl (fun ls hl => ?_)
        refine lv_goto (tgt := 4) hx hb d_K_zoneRows_21 (by decide) ?_
        exact ih_4 _ _ _ _ _ hf hW (lv_sub hl [0, 1, 2] rfl)
  refine loop_4 _ ?_ 64 _ _ _ _ _ hf hW (lv_sub hl [0, 1, 2] rfl)
  intro w4_2 w4_1 H locs ls hf hW hl
  refine lv_iload_n hx hb d_K_zoneRows_24 rfl (lv_at hl 1 rfl) ?_
  obtain rfl := Option.some.inj hf
  exact rd_iret C9 hlk hret hW ⟨rfl, rfl⟩ (by decide) (by decide) d_K_zoneRows_25
