def f_K_count (M : rd_M) (p1 : Int32) : Option (Int32) :=
  if p1 = 0 then
    some ((M 0).1 4)
  else if p1 = 1 then
    (f_K_domainsThere M).bind fun r3 =>
    some r3
  else if p1 = 2 then
    (f_S_howManyThere M 0).bind fun r5 =>
    some r5
  else if p1 = 3 then
    (f_S_howManyThere M 1).bind fun r7 =>
    some r7
  else if p1 = 4 then
    (f_K_messagesOfAll M).bind fun r9 =>
    some r9
  else if p1 = 5 then
    (f_K_zoneRows M).bind fun r11 =>
    some r11
  else
    some (-1)
set_option maxRecDepth 100000 in
set_option maxHeartbeats 4000000 in
theorem c_K_count {l : Launch} (hls : l.stackTraces = false) {D : va_G} {Ka : Nat → ClassId} {ad : Nat → Nat} {M : rd_M} (p1 : Int32)  {o : Int32} (hf : f_K_count M p1 = some o) :
    rd_Met l y_K_count b_K_count 2 (some .int) (6, 135, 0, 0) rd_T rd_ss D rd_cl (rd_ty Ka) (dk_L Ka) ad M [.ref (ad 0), .int p1] (fun r M1 => r = some (.int o) ∧ M = M1) (fun _ => False) := by
  refine rd_body (by decide) (Nat.le_of_ble_eq_true rfl) ?_
  intro p e s m below meth c C9 hlk hret hnt hTh hW ls hl
  have hx := C9.1.1
  have hb := C9.1.2.1
  have hl : lv_has ls 2 [(0, .ref (ad 0)), (1, .int p1)] := hl
  unfold f_K_count at hf
  refine lv_iload_n hx hb d_K_count_0 rfl (lv_at hl 1 rfl) ?_
  by_cases c1 : p1 = 0
  · have hf := rd_t hf c1
    refine lv_tableIn (off := 39) (tgt := 40) hx hb d_K_count_1 (by rw [c1]; decide) (by rw [c1]; decide) (by rw [c1]; rfl) (by decide) ?_
    refine lv_aload_n hx hb d_K_count_40 rfl (lv_at hl 0 rfl) ?_
    refine gf_K_today C9 hW l_K_34 d_K_count_41 ?_
    obtain rfl := Option.some.inj hf
    exact rd_iret C9 hlk hret hW ⟨rfl, rfl⟩ (by decide) (by decide) d_K_count_44
  have hf := rd_f hf c1
  by_cases c2 : p1 = 1
  · have hf := rd_t hf c2
    refine lv_tableIn (off := 44) (tgt := 45) hx hb d_K_count_1 (by rw [c2]; decide) (by rw [c2]; decide) (by rw [c2]; rfl) (by decide) ?_
    refine lv_aload_n hx hb d_K_count_45 rfl (lv_at hl 0 rfl) ?_
    obtain ⟨r3, qr3, hf⟩ := rd_bind hf
    refine rd_callV (As := []) (rest := []) rd_gd C9 hTh hW (c_K_domainsThere hls qr3) kc_K_domainsThere ki_K_domainsThere ks_K_domainsThere l_K_263 rfl (lt_K) (ce_K) rfl ⟨Nat.le_of_ble_eq_true rfl, Nat.le_of_ble_eq_true rfl⟩ ⟨Nat.le_of_ble_eq_true rfl, Nat.le_of_ble_eq_true rfl⟩ hl.1 rfl (Nat.le_of_ble_eq_true rfl) d_K_count_46 (fun E _ _ _ _ hex => hex.elim) (fun rr MM H locs hp hW => ?_)
    obtain ⟨rfl, rfl⟩ := hp
    obtain rfl := Option.some.inj hf
    exact rd_iret C9 hlk hret hW ⟨rfl, rfl⟩ (by decide) (by decide) d_K_count_49
  have hf := rd_f hf c2
  by_cases c4 : p1 = 2
  · have hf := rd_t hf c4
    refine lv_tableIn (off := 49) (tgt := 50) hx hb d_K_count_1 (by rw [c4]; decide) (by rw [c4]; decide) (by rw [c4]; rfl) (by decide) ?_
    refine lv_aload_n hx hb d_K_count_50 rfl (lv_at hl 0 rfl) ?_
    refine gf_K_shelves C9 hW l_K_22 d_K_count_51 ?_
    refine lv_iconst (v := 0) hx hb d_K_count_54 (by decide) ?_
    refine al_shelves C9 hW (i := 0) (by decide) (show rd_in 0 2 by decide) d_K_count_55 ?_
    obtain ⟨r5, qr5, hf⟩ := rd_bind hf
    refine rd_callV (As := []) (rest := []) rd_gd C9 hTh hW (c_S_howManyThere hls 0 (by decide) qr5) kc_S_howManyThere ki_S_howManyThere ks_S_howManyThere l_K_98 rfl (lt_S (by decide)) (ce_S (by decide)) rfl ⟨Nat.le_of_ble_eq_true rfl, Nat.le_of_ble_eq_true rfl⟩ ⟨Nat.le_of_ble_eq_true rfl, Nat.le_of_ble_eq_true rfl⟩ hl.1 rfl (Nat.le_of_ble_eq_true rfl) d_K_count_56 (fun E _ _ _ _ hex => hex.elim) (fun rr MM H locs hp hW => ?_)
    obtain ⟨rfl, rfl⟩ := hp
    obtain rfl := Option.some.inj hf
    exact rd_iret C9 hlk hret hW ⟨rfl, rfl⟩ (by decide) (by decide) d_K_count_59
  have hf := rd_f hf c4
  by_cases c6 : p1 = 3
  · have hf := rd_t hf c6
    refine lv_tableIn (off := 59) (tgt := 60) hx hb d_K_count_1 (by rw [c6]; decide) (by rw [c6]; decide) (by rw [c6]; rfl) (by decide) ?_
    refine lv_aload_n hx hb d_K_count_60 rfl (lv_at hl 0 rfl) ?_
    refine gf_K_shelves C9 hW l_K_22 d_K_count_61 ?_
    refine lv_iconst (v := 1) hx hb d_K_count_64 (by decide) ?_
    refine al_shelves C9 hW (i := 1) (by decide) (show rd_in 1 2 by decide) d_K_count_65 ?_
    obtain ⟨r7, qr7, hf⟩ := rd_bind hf
    refine rd_callV (As := []) (rest := []) rd_gd C9 hTh hW (c_S_howManyThere hls 1 (by decide) qr7) kc_S_howManyThere ki_S_howManyThere ks_S_howManyThere l_K_98 rfl (lt_S (by decide)) (ce_S (by decide)) rfl ⟨Nat.le_of_ble_eq_true rfl, Nat.le_of_ble_eq_true rfl⟩ ⟨Nat.le_of_ble_eq_true rfl, Nat.le_of_ble_eq_true rfl⟩ hl.1 rfl (Nat.le_of_ble_eq_true rfl) d_K_count_66 (fun E _ _ _ _ hex => hex.elim) (fun rr MM H locs hp hW => ?_)
    obtain ⟨rfl, rfl⟩ := hp
    obtain rfl := Option.some.inj hf
    exact rd_iret C9 hlk hret hW ⟨rfl, rfl⟩ (by decide) (by decide) d_K_count_69
  have hf := rd_f hf c6
  by_cases c8 : p1 = 4
  · have hf := rd_t hf c8
    refine lv_tableIn (off := 69) (tgt := 70) hx hb d_K_count_1 (by rw [c8]; decide) (by rw [c8]; decide) (by rw [c8]; rfl) (by decide) ?_
    refine lv_aload_n hx hb d_K_count_70 rfl (lv_at hl 0 rfl) ?_
    obtain ⟨r9, qr9, hf⟩ := rd_bind hf
    refine rd_callV (As := []) (rest := []) rd_gd C9 hTh hW (c_K_messagesOfAll hls qr9) kc_K_messagesOfAll ki_K_messagesOfAll ks_K_messagesOfAll l_K_266 rfl (lt_K) (ce_K) rfl ⟨Nat.le_of_ble_eq_true rfl, Nat.le_of_ble_eq_true rfl⟩ ⟨Nat.le_of_ble_eq_true rfl, Nat.le_of_ble_eq_true rfl⟩ hl.1 rfl (Nat.le_of_ble_eq_true rfl) d_K_count_71 (fun E _ _ _ _ hex => hex.elim) (fun rr MM H locs hp hW => ?_)
    obtain ⟨rfl, rfl⟩ := hp
    obtain rfl := Option.some.inj hf
    exact rd_iret C9 hlk hret hW ⟨rfl, rfl⟩ (by decide) (by decide) d_K_count_74
  have hf := rd_f hf c8
  by_cases c10 : p1 = 5
  · have hf := rd_t hf c10
    refine lv_tableIn (off := 74) (tgt := 75) hx hb d_K_count_1 (by rw [c10]; decide) (by rw [c10]; decide) (by rw [c10]; rfl) (by decide) ?_
    refine lv_aload_n hx hb d_K_count_75 rfl (lv_at hl 0 rfl) ?_
    obtain ⟨r11, qr11, hf⟩ := rd_bind hf
    refine rd_callV (As := []) (rest := []) rd_gd C9 hTh hW (c_K_zoneRows hls qr11) kc_K_zoneRows ki_K_zoneRows ks_K_zoneRows l_K_269 rfl (lt_K) (ce_K) rfl ⟨Nat.le_of_ble_eq_true rfl, Nat.le_of_ble_eq_true rfl⟩ ⟨Nat.le_of_ble_eq_true rfl, Nat.le_of_ble_eq_true rfl⟩ hl.1 rfl (Nat.le_of_ble_eq_true rfl) d_K_count_76 (fun E _ _ _ _ hex => hex.elim) (fun rr MM H locs hp hW => ?_)
    obtain ⟨rfl, rfl⟩ := hp
    obtain rfl := Option.some.inj hf
    exact rd_iret C9 hlk hret hW ⟨rfl, rfl⟩ (by decide) (by decide) d_K_count_79
  have hf := rd_f hf c10
  refine lv_tableOut (tgt := 80) hx hb d_K_count_1 (by
    have nc1 : ¬ (p1).toInt = 0 := fun h => c1 (Int32.toInt_inj.mp h)
    have nc2 : ¬ (p1).toInt = 1 := fun h => c2 (Int32.toInt_inj.mp h)
    have nc4 : ¬ (p1).toInt = 2 := fun h => c4 (Int32.toInt_inj.mp h)
    have nc6 : ¬ (p1).toInt = 3 := fun h => c6 (Int32.toInt_inj.mp h)
    have nc8 : ¬ (p1).toInt = 4 := fun h => c8 (Int32.toInt_inj.mp h)
    have nc10 : ¬ (p1).toInt = 5 := fun h => c10 (Int32.toInt_inj.mp h)
    omega) (by decide) ?_
  refine lv_iconst (v := (-1)) hx hb d_K_count_80 (by decide) ?_
  obtain rfl := Option.some.inj hf
  exact rd_iret C9 hlk hret hW ⟨rfl, rfl⟩ (by decide) (by decide) d_K_count_81
