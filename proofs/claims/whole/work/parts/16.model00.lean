def f_N_thrown (M : rd_M) : Option (Int32) :=
  some ((M 0).1 0)
set_option maxRecDepth 100000 in
set_option maxHeartbeats 4000000 in
theorem c_N_thrown {l : Launch} (hls : l.stackTraces = false) {D : va_G} {Ka : Nat → ClassId} {ad : Nat → Nat} {M : rd_M}   {o : Int32} (hf : f_N_thrown M = some o) :
    rd_Met l y_N_thrown b_N_thrown 1 (some .int) (0, 0, 0, 0) rd_T rd_ss D rd_cl (rd_ty Ka) (rm_L Ka) ad M [.ref (ad 0)] (fun r M1 => r = some (.int o) ∧ M = M1) (fun _ => False) := by
  refine rd_body (by decide) (Nat.le_of_ble_eq_true rfl) ?_
  intro p e s m below meth c C9 hlk hret hnt hTh hW ls hl
  have hx := C9.1.1
  have hb := C9.1.2.1
  have hl : lv_has ls 1 [(0, .ref (ad 0))] := hl
  unfold f_N_thrown at hf
  refine lv_aload_n hx hb d_N_thrown_0 rfl (lv_at hl 0 rfl) ?_
  refine gf_N_thrown C9 hW l_N_76 d_N_thrown_1 ?_
  obtain rfl := Option.some.inj hf
  exact rd_iret C9 hlk hret hW ⟨rfl, rfl⟩ (by decide) (by decide) d_N_thrown_4
def f_N_fail (M : rd_M) (p1 : Int32) : Option (Int32 × rd_M) :=
  rd_k (rd_iU M 0 0 p1) fun M1 =>
  some (0, M1)
set_option maxRecDepth 100000 in
set_option maxHeartbeats 4000000 in
theorem c_N_fail {l : Launch} (hls : l.stackTraces = false) {D : va_G} {Ka : Nat → ClassId} {ad : Nat → Nat} {M : rd_M} (p1 : Int32)  {o : Int32 × rd_M} (hf : f_N_fail M p1 = some o) :
    rd_Met l y_N_fail b_N_fail 2 (some .int) (0, 0, 0, 0) rd_T rd_ss D rd_cl (rd_ty Ka) (rm_L Ka) ad M [.ref (ad 0), .int p1] (fun r M1 => r = some (.int o.1) ∧ o.2 = M1) (fun _ => False) := by
  refine rd_body (by decide) (Nat.le_of_ble_eq_true rfl) ?_
  intro p e s m below meth c C9 hlk hret hnt hTh hW ls hl
  have hx := C9.1.1
  have hb := C9.1.2.1
  have hl : lv_has ls 2 [(0, .ref (ad 0)), (1, .int p1)] := hl
  unfold f_N_fail at hf
  refine lv_aload_n hx hb d_N_fail_0 rfl (lv_at hl 0 rfl) ?_
  refine lv_iload_n hx hb d_N_fail_1 rfl (lv_at hl 1 rfl) ?_
  refine pf_N_thrown C9 hW l_N_76 d_N_fail_2 (fun H locs hW => ?_)
  obtain ⟨M1, hM1, hf⟩ := rd_k_el hf
  rw [← hM1] at hW
  refine lv_iconst (v := 0) hx hb d_N_fail_5 (by decide) ?_
  obtain rfl := Option.some.inj hf
  exact rd_iret C9 hlk hret hW ⟨rfl, rfl⟩ (by decide) (by decide) d_N_fail_6
def f_N_give (M : rd_M) (p1 : Int32) : Option (Int32 × rd_M) :=
  rd_k (rd_iU M 0 0 0) fun M1 =>
  some (p1, M1)
set_option maxRecDepth 100000 in
set_option maxHeartbeats 4000000 in
theorem c_N_give {l : Launch} (hls : l.stackTraces = false) {D : va_G} {Ka : Nat → ClassId} {ad : Nat → Nat} {M : rd_M} (p1 : Int32)  {o : Int32 × rd_M} (hf : f_N_give M p1 = some o) :
    rd_Met l y_N_give b_N_give 2 (some .int) (0, 0, 0, 0) rd_T rd_ss D rd_cl (rd_ty Ka) (rm_L Ka) ad M [.ref (ad 0), .int p1] (fun r M1 => r = some (.int o.1) ∧ o.2 = M1) (fun _ => False) := by
  refine rd_body (by decide) (Nat.le_of_ble_eq_true rfl) ?_
  intro p e s m below meth c C9 hlk hret hnt hTh hW ls hl
  have hx := C9.1.1
  have hb := C9.1.2.1
  have hl : lv_has ls 2 [(0, .ref (ad 0)), (1, .int p1)] := hl
  unfold f_N_give at hf
  refine lv_aload_n hx hb d_N_give_0 rfl (lv_at hl 0 rfl) ?_
  refine lv_iconst (v := 0) hx hb d_N_give_1 (by decide) ?_
  refine pf_N_thrown C9 hW l_N_76 d_N_give_2 (fun H locs hW => ?_)
  obtain ⟨M1, hM1, hf⟩ := rd_k_el hf
  rw [← hM1] at hW
  refine lv_iload_n hx hb d_N_give_5 rfl (lv_at hl 1 rfl) ?_
  obtain rfl := Option.some.inj hf
  exact rd_iret C9 hlk hret hW ⟨rfl, rfl⟩ (by decide) (by decide) d_N_give_6
def f_N_shown (M : rd_M) (p1 : Int64) : Option (UInt64 × rd_M) :=
  rd_k (rd_iU M 0 0 0) fun M1 =>
  if rd_nn (FP.ddiv (FP.l2d p1) 4634204016564240384) then
  some (FP.ddiv (FP.l2d p1) 4634204016564240384, M1)
  else none
set_option maxRecDepth 100000 in
set_option maxHeartbeats 4000000 in
theorem c_N_shown {l : Launch} (hls : l.stackTraces = false) {D : va_G} {Ka : Nat → ClassId} {ad : Nat → Nat} {M : rd_M} (p1 : Int64)  {o : UInt64 × rd_M} (hf : f_N_shown M p1 = some o) :
    rd_Met l y_N_shown b_N_shown 3 (some .double) (0, 0, 0, 0) rd_T rd_ss D rd_cl (rd_ty Ka) (rm_L Ka) ad M [.ref (ad 0), .long p1] (fun r M1 => r = some (.double o.1) ∧ o.2 = M1) (fun _ => False) := by
  refine rd_body (by decide) (Nat.le_of_ble_eq_true rfl) ?_
  intro p e s m below meth c C9 hlk hret hnt hTh hW ls hl
  have hx := C9.1.1
  have hb := C9.1.2.1
  have hl : lv_has ls 3 [(0, .ref (ad 0)), (1, .long p1)] := hl
  unfold f_N_shown at hf
  refine lv_aload_n hx hb d_N_shown_0 rfl (lv_at hl 0 rfl) ?_
  refine lv_iconst (v := 0) hx hb d_N_shown_1 (by decide) ?_
  refine pf_N_thrown C9 hW l_N_76 d_N_shown_2 (fun H locs hW => ?_)
  obtain ⟨M1, hM1, hf⟩ := rd_k_el hf
  rw [← hM1] at hW
  refine lv_lload_n hx hb d_N_shown_5 rfl (lv_at hl 1 rfl) ?_
  refine lv_l2d hx hb d_N_shown_6 ?_
  refine rd_ldcD C9 l_N_80 d_N_shown_7 ?_
  obtain ⟨g_10, hf⟩ := rd_g hf
  refine lv_ddiv hx hb d_N_shown_10 g_10 ?_
  obtain rfl := Option.some.inj hf
  exact rd_dret C9 hlk hret hW ⟨rfl, rfl⟩ (by decide) (by decide) d_N_shown_11
def f_N_in (M : rd_M) (p0 : Int32) (p1 : Int32) (p2 : Int32) : Option (Int32) :=
  if p0 < p1 then
    some 0
  else
    rd_k (if p2 < p0 then 0 else 1 : Int32) fun z3 =>
    some z3
set_option maxRecDepth 100000 in
set_option maxHeartbeats 4000000 in
theorem c_N_in {l : Launch} (hls : l.stackTraces = false) {D : va_G} {Ka : Nat → ClassId} {ad : Nat → Nat} {M : rd_M} (p0 : Int32) (p1 : Int32) (p2 : Int32)  {o : Int32} (hf : f_N_in M p0 p1 p2 = some o) :
    rd_Met l y_N_in b_N_in 3 (some .boolean) (0, 0, 0, 0) rd_T rd_ss D rd_cl (rd_ty Ka) (rm_L Ka) ad M [.int p0, .int p1, .int p2] (fun r M1 => r = some (.int o) ∧ M = M1) (fun _ => False) := by
  refine rd_body (by decide) (Nat.le_of_ble_eq_true rfl) ?_
  intro p e s m below meth c C9 hlk hret hnt hTh hW ls hl
  have hx := C9.1.1
  have hb := C9.1.2.1
  have hl : lv_has ls 3 [(0, .int p0), (1, .int p1), (2, .int p2)] := hl
  unfold f_N_in at hf
  refine lv_iload_n hx hb d_N_in_0 rfl (lv_at hl 0 rfl) ?_
  refine lv_iload_n hx hb d_N_in_1 rfl (lv_at hl 1 rfl) ?_
  refine lv_icmp_lt (tgt := 14) hx hb d_N_in_2 (by decide) (fun c1 => ?_) (fun c1 => ?_)
  · have hf := rd_t hf c1
    refine lv_iconst (v := 0) hx hb d_N_in_14 (by decide) ?_
    obtain rfl := Option.some.inj hf
    exact rd_zret C9 hlk hret hW (Or.inl rfl) ⟨rfl, rfl⟩ (by decide) (by decide) d_N_in_15
  · have hf := rd_f hf c1
    refine lv_iload_n hx hb d_N_in_5 rfl (lv_at hl 0 rfl) ?_
    refine lv_iload_n hx hb d_N_in_6 rfl (lv_at hl 2 rfl) ?_
    obtain ⟨z3, hz3, hf⟩ := rd_k_el hf
    refine rd_sel z3 (fun z => F0 m 15 ls (.int z :: [])) hz3 (fun hJ => ?_) ?_
    · refine lv_icmp_gt (tgt := 14) hx hb d_N_in_7 (by decide) (fun c2 => ?_) (fun c2 => ?_)
      · have hJ := rd_selt (g := (fun z => F0 m 15 ls (.int z :: []))) hJ c2
        refine lv_iconst (v := 0) hx hb d_N_in_14 (by decide) ?_
        exact hJ
      · have hJ := rd_self (g := (fun z => F0 m 15 ls (.int z :: []))) hJ c2
        refine lv_iconst (v := 1) hx hb d_N_in_10 (by decide) ?_
        refine lv_goto (tgt := 15) hx hb d_N_in_11 (by decide) ?_
        exact hJ
    have hb9 : z3 = 0 ∨ z3 = 1 := by rw [hz3]; split <;> simp
    obtain rfl := Option.some.inj hf
    exact rd_zret C9 hlk hret hW hb9 ⟨rfl, rfl⟩ (by decide) (by decide) d_N_in_15
def f_N_noDomain (M : rd_M) (p1 : Int32) : Option (Int32) :=
  if rd_in p1 10 then
  rd_k (if 0 ≤ ((M 10).1 p1.toNatClampNeg) then 0 else 1 : Int32) fun z3 =>
  some z3
  else none
set_option maxRecDepth 100000 in
set_option maxHeartbeats 4000000 in
theorem c_N_noDomain {l : Launch} (hls : l.stackTraces = false) {D : va_G} {Ka : Nat → ClassId} {ad : Nat → Nat} {M : rd_M} (p1 : Int32)  {o : Int32} (hf : f_N_noDomain M p1 = some o) :
    rd_Met l y_N_noDomain b_N_noDomain 2 (some .boolean) (0, 0, 0, 0) rd_T rd_ss D rd_cl (rd_ty Ka) (rm_L Ka) ad M [.ref (ad 0), .int p1] (fun r M1 => r = some (.int o) ∧ M = M1) (fun _ => False) := by
  refine rd_body (by decide) (Nat.le_of_ble_eq_true rfl) ?_
  intro p e s m below meth c C9 hlk hret hnt hTh hW ls hl
  have hx := C9.1.1
  have hb := C9.1.2.1
  have hl : lv_has ls 2 [(0, .ref (ad 0)), (1, .int p1)] := hl
  unfold f_N_noDomain at hf
  refine lv_aload_n hx hb d_N_noDomain_0 rfl (lv_at hl 0 rfl) ?_
  refine gf_N_owner C9 hW l_N_40 d_N_noDomain_1 ?_
  refine lv_iload_n hx hb d_N_noDomain_4 rfl (lv_at hl 1 rfl) ?_
  obtain ⟨g1, hf⟩ := rd_g hf
  refine al_m_owner C9 hW rfl g1 d_N_noDomain_5 ?_
  obtain ⟨z3, hz3, hf⟩ := rd_k_el hf
  refine rd_sel z3 (fun z => F0 m 14 ls (.int z :: [])) hz3 (fun hJ => ?_) ?_
  · refine lv_if_ge (tgt := 13) hx hb d_N_noDomain_6 (by decide) (fun c2 => ?_) (fun c2 => ?_)
    · have hJ := rd_selt (g := (fun z => F0 m 14 ls (.int z :: []))) hJ c2
      refine lv_iconst (v := 0) hx hb d_N_noDomain_13 (by decide) ?_
      exact hJ
    · have hJ := rd_self (g := (fun z => F0 m 14 ls (.int z :: []))) hJ c2
      refine lv_iconst (v := 1) hx hb d_N_noDomain_9 (by decide) ?_
      refine lv_goto (tgt := 14) hx hb d_N_noDomain_10 (by decide) ?_
      exact hJ
  have hb9 : z3 = 0 ∨ z3 = 1 := by rw [hz3]; split <;> simp
  obtain rfl := Option.some.inj hf
  exact rd_zret C9 hlk hret hW hb9 ⟨rfl, rfl⟩ (by decide) (by decide) d_N_noDomain_14
def f_N_noThing (M : rd_M) (p1 : Int32) (p2 : Int32) : Option (Int32) :=
  if 0 ≤ p2 then
    if p1 = 0 then
      if ((M 0).1 7) ≤ p2 then
        some 1
      else
        if rd_in p2 8 then
        rd_k (if 0 ≤ ((M 6).1 p2.toNatClampNeg) then 0 else 1 : Int32) fun z10 =>
        some z10
        else none
    else
      if ((M 0).1 9) ≤ p2 then
        some 1
      else
        if rd_in p2 8 then
        rd_k (if 0 ≤ ((M 7).1 p2.toNatClampNeg) then 0 else 1 : Int32) fun z6 =>
        some z6
        else none
  else
    some 1
set_option maxRecDepth 100000 in
set_option maxHeartbeats 4000000 in
theorem c_N_noThing {l : Launch} (hls : l.stackTraces = false) {D : va_G} {Ka : Nat → ClassId} {ad : Nat → Nat} {M : rd_M} (p1 : Int32) (p2 : Int32)  {o : Int32} (hf : f_N_noThing M p1 p2 = some o) :
    rd_Met l y_N_noThing b_N_noThing 3 (some .boolean) (0, 0, 0, 0) rd_T rd_ss D rd_cl (rd_ty Ka) (rm_L Ka) ad M [.ref (ad 0), .int p1, .int p2] (fun r M1 => r = some (.int o) ∧ M = M1) (fun _ => False) := by
  refine rd_body (by decide) (Nat.le_of_ble_eq_true rfl) ?_
  intro p e s m below meth c C9 hlk hret hnt hTh hW ls hl
  have hx := C9.1.1
  have hb := C9.1.2.1
  have hl : lv_has ls 3 [(0, .ref (ad 0)), (1, .int p1), (2, .int p2)] := hl
  unfold f_N_noThing at hf
  refine lv_iload_n hx hb d_N_noThing_0 rfl (lv_at hl 2 rfl) ?_
  refine lv_if_ge (tgt := 6) hx hb d_N_noThing_1 (by decide) (fun c1 => ?_) (fun c1 => ?_)
  · have hf := rd_t hf c1
    refine lv_iload_n hx hb d_N_noThing_6 rfl (lv_at hl 1 rfl) ?_
    refine lv_if_ne (tgt := 35) hx hb d_N_noThing_7 (by decide) (fun c2 => ?_) (fun c2 => ?_)
    · have hf := rd_f hf c2
      refine lv_iload_n hx hb d_N_noThing_35 rfl (lv_at hl 2 rfl) ?_
      refine lv_aload_n hx hb d_N_noThing_36 rfl (lv_at hl 0 rfl) ?_
      refine gf_N_hosts C9 hW l_N_85 d_N_noThing_37 ?_
      refine lv_icmp_ge (tgt := 52) hx hb d_N_noThing_40 (by decide) (fun c3 => ?_) (fun c3 => ?_)
      · have hf := rd_t hf c3
        refine lv_iconst (v := 1) hx hb d_N_noThing_52 (by decide) ?_
        refine lv_goto (tgt := 57) hx hb d_N_noThing_53 (by decide) ?_
        obtain rfl := Option.some.inj hf
        exact rd_zret C9 hlk hret hW (Or.inr rfl) ⟨rfl, rfl⟩ (by decide) (by decide) d_N_noThing_57
      · have hf := rd_f hf c3
        refine lv_aload_n hx hb d_N_noThing_43 rfl (lv_at hl 0 rfl) ?_
        refine gf_N_hostOwner C9 hW l_N_31 d_N_noThing_44 ?_
        refine lv_iload_n hx hb d_N_noThing_47 rfl (lv_at hl 2 rfl) ?_
        obtain ⟨g4, hf⟩ := rd_g hf
        refine al_m_hostOwner C9 hW rfl g4 d_N_noThing_48 ?_
        obtain ⟨z6, hz6, hf⟩ := rd_k_el hf
        refine rd_sel z6 (fun z => F0 m 57 ls (.int z :: [])) hz6 (fun hJ => ?_) ?_
        · refine lv_if_ge (tgt := 56) hx hb d_N_noThing_49 (by decide) (fun c5 => ?_) (fun c5 => ?_)
          · have hJ := rd_selt (g := (fun z => F0 m 57 ls (.int z :: []))) hJ c5
            refine lv_iconst (v := 0) hx hb d_N_noThing_56 (by decide) ?_
            exact hJ
          · have hJ := rd_self (g := (fun z => F0 m 57 ls (.int z :: []))) hJ c5
            refine lv_iconst (v := 1) hx hb d_N_noThing_52 (by decide) ?_
            refine lv_goto (tgt := 57) hx hb d_N_noThing_53 (by decide) ?_
            exact hJ
        have hb9 : z6 = 0 ∨ z6 = 1 := by rw [hz6]; split <;> simp
        obtain rfl := Option.some.inj hf
        exact rd_zret C9 hlk hret hW hb9 ⟨rfl, rfl⟩ (by decide) (by decide) d_N_noThing_57
    · have hf := rd_t hf c2
      refine lv_iload_n hx hb d_N_noThing_10 rfl (lv_at hl 2 rfl) ?_
      refine lv_aload_n hx hb d_N_noThing_11 rfl (lv_at hl 0 rfl) ?_
      refine gf_N_contacts C9 hW l_N_82 d_N_noThing_12 ?_
      refine lv_icmp_ge (tgt := 27) hx hb d_N_noThing_15 (by decide) (fun c7 => ?_) (fun c7 => ?_)
      · have hf := rd_t hf c7
        refine lv_iconst (v := 1) hx hb d_N_noThing_27 (by decide) ?_
        refine lv_goto (tgt := 57) hx hb d_N_noThing_28 (by decide) ?_
        obtain rfl := Option.some.inj hf
        exact rd_zret C9 hlk hret hW (Or.inr rfl) ⟨rfl, rfl⟩ (by decide) (by decide) d_N_noThing_57
      · have hf := rd_f hf c7
        refine lv_aload_n hx hb d_N_noThing_18 rfl (lv_at hl 0 rfl) ?_
        refine gf_N_contactOwner C9 hW l_N_28 d_N_noThing_19 ?_
        refine lv_iload_n hx hb d_N_noThing_22 rfl (lv_at hl 2 rfl) ?_
        obtain ⟨g8, hf⟩ := rd_g hf
        refine al_m_contactOwner C9 hW rfl g8 d_N_noThing_23 ?_
        obtain ⟨z10, hz10, hf⟩ := rd_k_el hf
        refine rd_sel z10 (fun z => F0 m 57 ls (.int z :: [])) hz10 (fun hJ => ?_) ?_
        · refine lv_if_ge (tgt := 31) hx hb d_N_noThing_24 (by decide) (fun c9 => ?_) (fun c9 => ?_)
          · have hJ := rd_selt (g := (fun z => F0 m 57 ls (.int z :: []))) hJ c9
            refine lv_iconst (v := 0) hx hb d_N_noThing_31 (by decide) ?_
            refine lv_goto (tgt := 57) hx hb d_N_noThing_32 (by decide) ?_
            exact hJ
          · have hJ := rd_self (g := (fun z => F0 m 57 ls (.int z :: []))) hJ c9
            refine lv_iconst (v := 1) hx hb d_N_noThing_27 (by decide) ?_
            refine lv_goto (tgt := 57) hx hb d_N_noThing_28 (by decide) ?_
            exact hJ
        have hb9 : z10 = 0 ∨ z10 = 1 := by rw [hz10]; split <;> simp
        obtain rfl := Option.some.inj hf
        exact rd_zret C9 hlk hret hW hb9 ⟨rfl, rfl⟩ (by decide) (by decide) d_N_noThing_57
  · have hf := rd_f hf c1
    refine lv_iconst (v := 1) hx hb d_N_noThing_4 (by decide) ?_
    obtain rfl := Option.some.inj hf
    exact rd_zret C9 hlk hret hW (Or.inr rfl) ⟨rfl, rfl⟩ (by decide) (by decide) d_N_noThing_5
def f_N_cost (M : rd_M) (p1 : Int32) (p2 : Int32) (p3 : Int32) : Option (Int64) :=
  if rd_in p2 4 then
  if rd_in p1 4 then
  if (lg_cmp ((M 2).2.1 p1.toNatClampNeg) 6400) < 0 then
    some (((M 1).2.1 p2.toNatClampNeg) * p3.toInt64)
  else
    some (((((M 1).2.1 p2.toNatClampNeg) * p3.toInt64) / 8) * 7)
  else none
  else none
set_option maxRecDepth 100000 in
set_option maxHeartbeats 4000000 in
theorem c_N_cost {l : Launch} (hls : l.stackTraces = false) {D : va_G} {Ka : Nat → ClassId} {ad : Nat → Nat} {M : rd_M} (p1 : Int32) (p2 : Int32) (p3 : Int32)  {o : Int64} (hf : f_N_cost M p1 p2 p3 = some o) :
    rd_Met l y_N_cost b_N_cost 6 (some .long) (0, 0, 0, 0) rd_T rd_ss D rd_cl (rd_ty Ka) (rm_L Ka) ad M [.ref (ad 0), .int p1, .int p2, .int p3] (fun r M1 => r = some (.long o) ∧ M = M1) (fun _ => False) := by
  refine rd_body (by decide) (Nat.le_of_ble_eq_true rfl) ?_
  intro p e s m below meth c C9 hlk hret hnt hTh hW ls hl
  have hx := C9.1.1
  have hb := C9.1.2.1
  have hl : lv_has ls 6 [(0, .ref (ad 0)), (1, .int p1), (2, .int p2), (3, .int p3)] := hl
  unfold f_N_cost at hf
  refine lv_aload_n hx hb d_N_cost_0 rfl (lv_at hl 0 rfl) ?_
  refine gf_N_price C9 hW l_N_9 d_N_cost_1 ?_
  refine lv_iload_n hx hb d_N_cost_4 rfl (lv_at hl 2 rfl) ?_
  obtain ⟨g1, hf⟩ := rd_g hf
  refine al_m_price C9 hW rfl g1 d_N_cost_5 ?_
  refine lv_iload_n hx hb d_N_cost_6 rfl (lv_at hl 3 rfl) ?_
  refine lv_i2l hx hb d_N_cost_7 rfl ?_
  refine lv_lmul hx hb d_N_cost_8 ?_
  refine lv_lstore (lv' := [(4, .long (((M 1).2.1 p2.toNatClampNeg) * p3.toInt64)), (0, .ref (ad 0)), (1, .int p1), (2, .int p2), (3, .int p3)]) hx hb d_N_cost_9 hl (by decide) rfl (fun ls hl => ?_)
  refine lv_aload_n hx hb d_N_cost_11 rfl (lv_at hl 1 rfl) ?_
  refine gf_N_balance C9 hW l_N_15 d_N_cost_12 ?_
  refine lv_iload_n hx hb d_N_cost_15 rfl (lv_at hl 2 rfl) ?_
  obtain ⟨g2, hf⟩ := rd_g hf
  refine al_m_balance C9 hW rfl g2 d_N_cost_16 ?_
  refine rd_ldcJ C9 l_N_92 d_N_cost_17 ?_
  refine W.lcmp hx hb d_N_cost_20 ?_
  refine lv_if_lt (tgt := 37) hx hb d_N_cost_21 (by decide) (fun c3 => ?_) (fun c3 => ?_)
  · have hf := rd_t hf c3
    refine lv_lload hx hb d_N_cost_37 (lv_at hl 0 rfl) ?_
    obtain rfl := Option.some.inj hf
    exact rd_lret C9 hlk hret hW ⟨rfl, rfl⟩ (by decide) (by decide) d_N_cost_39
  · have hf := rd_f hf c3
    refine lv_lload hx hb d_N_cost_24 (lv_at hl 0 rfl) ?_
    refine rd_ldcJ C9 l_N_94 d_N_cost_26 ?_
    refine lv_ldiv hx hb d_N_cost_29 (by decide) ?_
    refine rd_ldcJ C9 l_N_96 d_N_cost_30 ?_
    refine lv_lmul hx hb d_N_cost_33 ?_
    refine lv_goto (tgt := 39) hx hb d_N_cost_34 (by decide) ?_
    obtain rfl := Option.some.inj hf
    exact rd_lret C9 hlk hret hW ⟨rfl, rfl⟩ (by decide) (by decide) d_N_cost_39
def f_N_canPay (M : rd_M) (p1 : Int32) (p2 : Int32) (p3 : Int32) : Option (Int32) :=
  if rd_in p1 4 then
  (f_N_cost M p1 p2 p3).bind fun r2 =>
  rd_k (if (lg_cmp ((M 2).2.1 p1.toNatClampNeg) r2) < 0 then 0 else 1 : Int32) fun z4 =>
  some z4
  else none
set_option maxRecDepth 100000 in
set_option maxHeartbeats 4000000 in
theorem c_N_canPay {l : Launch} (hls : l.stackTraces = false) {D : va_G} {Ka : Nat → ClassId} {ad : Nat → Nat} {M : rd_M} (p1 : Int32) (p2 : Int32) (p3 : Int32)  {o : Int32} (hf : f_N_canPay M p1 p2 p3 = some o) :
    rd_Met l y_N_canPay b_N_canPay 4 (some .boolean) (1, 25, 0, 0) rd_T rd_ss D rd_cl (rd_ty Ka) (rm_L Ka) ad M [.ref (ad 0), .int p1, .int p2, .int p3] (fun r M1 => r = some (.int o) ∧ M = M1) (fun _ => False) := by
  refine rd_body (by decide) (Nat.le_of_ble_eq_true rfl) ?_
  intro p e s m below meth c C9 hlk hret hnt hTh hW ls hl
  have hx := C9.1.1
  have hb := C9.1.2.1
  have hl : lv_has ls 4 [(0, .ref (ad 0)), (1, .int p1), (2, .int p2), (3, .int p3)] := hl
  unfold f_N_canPay at hf
  refine lv_aload_n hx hb d_N_canPay_0 rfl (lv_at hl 0 rfl) ?_
  refine gf_N_balance C9 hW l_N_15 d_N_canPay_1 ?_
  refine lv_iload_n hx hb d_N_canPay_4 rfl (lv_at hl 1 rfl) ?_
  obtain ⟨g1, hf⟩ := rd_g hf
  refine al_m_balance C9 hW rfl g1 d_N_canPay_5 ?_
  refine lv_aload_n hx hb d_N_canPay_6 rfl (lv_at hl 0 rfl) ?_
  refine lv_iload_n hx hb d_N_canPay_7 rfl (lv_at hl 1 rfl) ?_
  refine lv_iload_n hx hb d_N_canPay_8 rfl (lv_at hl 2 rfl) ?_
  refine lv_iload_n hx hb d_N_canPay_9 rfl (lv_at hl 3 rfl) ?_
  obtain ⟨r2, qr2, hf⟩ := rd_bind hf
  refine rd_callV (As := [.int p1, .int p2, .int p3]) (rest := [.long ((M 2).2.1 p1.toNatClampNeg)]) rd_gd C9 hTh hW (c_N_cost hls p1 p2 p3 qr2) kc_N_cost ki_N_cost ks_N_cost l_N_88 rfl (lt_N) (ce_N) rfl ⟨Nat.le_of_ble_eq_true rfl, Nat.le_of_ble_eq_true rfl⟩ ⟨Nat.le_of_ble_eq_true rfl, Nat.le_of_ble_eq_true rfl⟩ hl.1 rfl (Nat.le_of_ble_eq_true rfl) d_N_canPay_10 (fun E _ _ _ _ hex => hex.elim) (fun rr MM H locs hp hW => ?_)
  obtain ⟨rfl, rfl⟩ := hp
  refine W.lcmp hx hb d_N_canPay_13 ?_
  obtain ⟨z4, hz4, hf⟩ := rd_k_el hf
  refine rd_sel z4 (fun z => F0 m 22 ls (.int z :: [])) hz4 (fun hJ => ?_) ?_
  · refine lv_if_lt (tgt := 21) hx hb d_N_canPay_14 (by decide) (fun c3 => ?_) (fun c3 => ?_)
    · have hJ := rd_selt (g := (fun z => F0 m 22 ls (.int z :: []))) hJ c3
      refine lv_iconst (v := 0) hx hb d_N_canPay_21 (by decide) ?_
      exact hJ
    · have hJ := rd_self (g := (fun z => F0 m 22 ls (.int z :: []))) hJ c3
      refine lv_iconst (v := 1) hx hb d_N_canPay_17 (by decide) ?_
      refine lv_goto (tgt := 22) hx hb d_N_canPay_18 (by decide) ?_
      exact hJ
  have hb9 : z4 = 0 ∨ z4 = 1 := by rw [hz4]; split <;> simp
  obtain rfl := Option.some.inj hf
  exact rd_zret C9 hlk hret hW hb9 ⟨rfl, rfl⟩ (by decide) (by decide) d_N_canPay_22
def f_N_pay (M : rd_M) (p1 : Int32) (p2 : Int32) (p3 : Int32) (p4 : Int32) (p5 : Int32) : Option (rd_M) :=
  (f_N_cost M p1 p2 p3).bind fun r1 =>
  if rd_in p1 4 then
  if rd_in p1 4 then
  rd_k (rd_lU M 2 p1.toNatClampNeg (((M 2).2.1 p1.toNatClampNeg) - r1)) fun M4 =>
  if rd_in ((4 * p1) + p2) 16 then
  if rd_in ((4 * p1) + p2) 16 then
  rd_k (rd_lU M4 3 (((4 * p1) + p2).toNatClampNeg) (((M4 3).2.1 (((4 * p1) + p2).toNatClampNeg)) + r1)) fun M7 =>
  if 0 ≤ p5 then
    if rd_in ((5 * p4) + p5) 50 then
    rd_k (rd_lU M7 20 (((5 * p4) + p5).toNatClampNeg) r1) fun M10 =>
    rd_k (if p5 = 4 then 4 else 3 : Int32) fun z12 =>
    if rd_in ((5 * p4) + p5) 50 then
    rd_k (rd_iU M10 21 (((5 * p4) + p5).toNatClampNeg) (((M10 0).1 1) + z12)) fun M14 =>
    some M14
    else none
    else none
  else
    some M7
  else none
  else none
  else none
  else none
set_option maxRecDepth 100000 in
set_option maxHeartbeats 4000000 in
theorem c_N_pay {l : Launch} (hls : l.stackTraces = false) {D : va_G} {Ka : Nat → ClassId} {ad : Nat → Nat} {M : rd_M} (p1 : Int32) (p2 : Int32) (p3 : Int32) (p4 : Int32) (p5 : Int32)  {o : rd_M} (hf : f_N_pay M p1 p2 p3 p4 p5 = some o) :
    rd_Met l y_N_pay b_N_pay 8 none (1, 25, 0, 0) rd_T rd_ss D rd_cl (rd_ty Ka) (rm_L Ka) ad M [.ref (ad 0), .int p1, .int p2, .int p3, .int p4, .int p5] (fun r M1 => r = none ∧ o = M1) (fun _ => False) := by
  refine rd_body (by decide) (Nat.le_of_ble_eq_true rfl) ?_
  intro p e s m below meth c C9 hlk hret hnt hTh hW ls hl
  have hx := C9.1.1
  have hb := C9.1.2.1
  have hl : lv_has ls 8 [(0, .ref (ad 0)), (1, .int p1), (2, .int p2), (3, .int p3), (4, .int p4), (5, .int p5)] := hl
  unfold f_N_pay at hf
  refine lv_aload_n hx hb d_N_pay_0 rfl (lv_at hl 0 rfl) ?_
  refine lv_iload_n hx hb d_N_pay_1 rfl (lv_at hl 1 rfl) ?_
  refine lv_iload_n hx hb d_N_pay_2 rfl (lv_at hl 2 rfl) ?_
  refine lv_iload_n hx hb d_N_pay_3 rfl (lv_at hl 3 rfl) ?_
  obtain ⟨r1, qr1, hf⟩ := rd_bind hf
  refine rd_callV (As := [.int p1, .int p2, .int p3]) (rest := []) rd_gd C9 hTh hW (c_N_cost hls p1 p2 p3 qr1) kc_N_cost ki_N_cost ks_N_cost l_N_88 rfl (lt_N) (ce_N) rfl ⟨Nat.le_of_ble_eq_true rfl, Nat.le_of_ble_eq_true rfl⟩ ⟨Nat.le_of_ble_eq_true rfl, Nat.le_of_ble_eq_true rfl⟩ hl.1 rfl (Nat.le_of_ble_eq_true rfl) d_N_pay_4 (fun E _ _ _ _ hex => hex.elim) (fun rr MM H locs hp hW => ?_)
  obtain ⟨rfl, rfl⟩ := hp
  refine lv_lstore (lv' := [(6, .long r1), (0, .ref (ad 0)), (1, .int p1), (2, .int p2), (3, .int p3), (4, .int p4), (5, .int p5)]) hx hb d_N_pay_7 hl (by decide) rfl (fun ls hl => ?_)
  refine lv_aload_n hx hb d_N_pay_9 rfl (lv_at hl 1 rfl) ?_
  refine gf_N_balance C9 hW l_N_15 d_N_pay_10 ?_
  refine lv_iload_n hx hb d_N_pay_13 rfl (lv_at hl 2 rfl) ?_
  refine lv_dup2_11 hx hb d_N_pay_14 rfl rfl ?_
  obtain ⟨g2, hf⟩ := rd_g hf
  refine al_m_balance C9 hW rfl g2 d_N_pay_15 ?_
  refine lv_lload hx hb d_N_pay_16 (lv_at hl 0 rfl) ?_
  refine lv_lsub hx hb d_N_pay_18 ?_
  obtain ⟨g3, hf⟩ := rd_g hf
  refine as_m_balance C9 hW rfl g3 d_N_pay_19 (fun H locs hW => ?_)
  obtain ⟨M4, hM4, hf⟩ := rd_k_el hf
  rw [← hM4] at hW
  refine lv_aload_n hx hb d_N_pay_20 rfl (lv_at hl 1 rfl) ?_
  refine gf_N_paid C9 hW l_N_18 d_N_pay_21 ?_
  refine lv_iconst (v := 4) hx hb d_N_pay_24 (by decide) ?_
  refine lv_iload_n hx hb d_N_pay_25 rfl (lv_at hl 2 rfl) ?_
  refine lv_imul hx hb d_N_pay_26 ?_
  refine lv_iload_n hx hb d_N_pay_27 rfl (lv_at hl 3 rfl) ?_
  refine lv_iadd hx hb d_N_pay_28 ?_
  refine lv_dup2_11 hx hb d_N_pay_29 rfl rfl ?_
  obtain ⟨g5, hf⟩ := rd_g hf
  refine al_m_paid C9 hW rfl g5 d_N_pay_30 ?_
  refine lv_lload hx hb d_N_pay_31 (lv_at hl 0 rfl) ?_
  refine lv_ladd hx hb d_N_pay_33 ?_
  obtain ⟨g6, hf⟩ := rd_g hf
  refine as_m_paid C9 hW rfl g6 d_N_pay_34 (fun H locs hW => ?_)
  obtain ⟨M7, hM7, hf⟩ := rd_k_el hf
  rw [← hM7] at hW
  refine lv_iload hx hb d_N_pay_35 (lv_at hl 6 rfl) ?_
  refine lv_if_ge (tgt := 41) hx hb d_N_pay_37 (by decide) (fun c8 => ?_) (fun c8 => ?_)
  · have hf := rd_t hf c8
    refine lv_aload_n hx hb d_N_pay_41 rfl (lv_at hl 1 rfl) ?_
    refine gf_N_grace C9 hW l_N_70 d_N_pay_42 ?_
    refine lv_iconst (v := 5) hx hb d_N_pay_45 (by decide) ?_
    refine lv_iload hx hb d_N_pay_46 (lv_at hl 5 rfl) ?_
    refine lv_imul hx hb d_N_pay_48 ?_
    refine lv_iload hx hb d_N_pay_49 (lv_at hl 6 rfl) ?_
    refine lv_iadd hx hb d_N_pay_51 ?_
    refine lv_lload hx hb d_N_pay_52 (lv_at hl 0 rfl) ?_
    obtain ⟨g9, hf⟩ := rd_g hf
    refine as_m_grace C9 hW rfl g9 d_N_pay_54 (fun H locs hW => ?_)
    obtain ⟨M10, hM10, hf⟩ := rd_k_el hf
    rw [← hM10] at hW
    refine lv_aload_n hx hb d_N_pay_55 rfl (lv_at hl 1 rfl) ?_
    refine gf_N_graceEnd C9 hW l_N_73 d_N_pay_56 ?_
    refine lv_iconst (v := 5) hx hb d_N_pay_59 (by decide) ?_
    refine lv_iload hx hb d_N_pay_60 (lv_at hl 5 rfl) ?_
    refine lv_imul hx hb d_N_pay_62 ?_
    refine lv_iload hx hb d_N_pay_63 (lv_at hl 6 rfl) ?_
    refine lv_iadd hx hb d_N_pay_65 ?_
    refine lv_aload_n hx hb d_N_pay_66 rfl (lv_at hl 1 rfl) ?_
    refine gf_N_day C9 hW l_N_98 d_N_pay_67 ?_
    refine lv_iload hx hb d_N_pay_70 (lv_at hl 6 rfl) ?_
    refine lv_iconst (v := 4) hx hb d_N_pay_72 (by decide) ?_
    obtain ⟨z12, hz12, hf⟩ := rd_k_el hf
    refine rd_sel z12 (fun z => F0 m 81 ls (.int z :: [.int ((M10 0).1 1), .int ((5 * p4) + p5), .ref (ad 21)])) hz12 (fun hJ => ?_) ?_
    · refine lv_icmp_ne (tgt := 80) hx hb d_N_pay_73 (by decide) (fun c11 => ?_) (fun c11 => ?_)
      · have hJ := rd_self (g := (fun z => F0 m 81 ls (.int z :: [.int ((M10 0).1 1), .int ((5 * p4) + p5), .ref (ad 21)]))) hJ c11
        refine lv_iconst (v := 3) hx hb d_N_pay_80 (by decide) ?_
        exact hJ
      · have hJ := rd_selt (g := (fun z => F0 m 81 ls (.int z :: [.int ((M10 0).1 1), .int ((5 * p4) + p5), .ref (ad 21)]))) hJ c11
        refine lv_iconst (v := 4) hx hb d_N_pay_76 (by decide) ?_
        refine lv_goto (tgt := 81) hx hb d_N_pay_77 (by decide) ?_
        exact hJ
    refine lv_iadd hx hb d_N_pay_81 ?_
    obtain ⟨g13, hf⟩ := rd_g hf
    refine as_m_graceEnd C9 hW rfl g13 d_N_pay_82 (fun H locs hW => ?_)
    obtain ⟨M14, hM14, hf⟩ := rd_k_el hf
    rw [← hM14] at hW
    obtain rfl := Option.some.inj hf
    exact rd_vret C9 hlk hret hW ⟨rfl, rfl⟩ (by decide) (by decide) d_N_pay_83
  · have hf := rd_f hf c8
    obtain rfl := Option.some.inj hf
    exact rd_vret C9 hlk hret hW ⟨rfl, rfl⟩ (by decide) (by decide) d_N_pay_40
def f_N_graceOn (M : rd_M) (p1 : Int32) (p2 : Int32) : Option (Int32) :=
  if rd_in ((5 * p1) + p2) 50 then
  rd_k (if ((M 21).1 (((5 * p1) + p2).toNatClampNeg)) < ((M 0).1 1) then 0 else 1 : Int32) fun z3 =>
  some z3
  else none
set_option maxRecDepth 100000 in
set_option maxHeartbeats 4000000 in
theorem c_N_graceOn {l : Launch} (hls : l.stackTraces = false) {D : va_G} {Ka : Nat → ClassId} {ad : Nat → Nat} {M : rd_M} (p1 : Int32) (p2 : Int32)  {o : Int32} (hf : f_N_graceOn M p1 p2 = some o) :
    rd_Met l y_N_graceOn b_N_graceOn 3 (some .boolean) (0, 0, 0, 0) rd_T rd_ss D rd_cl (rd_ty Ka) (rm_L Ka) ad M [.ref (ad 0), .int p1, .int p2] (fun r M1 => r = some (.int o) ∧ M = M1) (fun _ => False) := by
  refine rd_body (by decide) (Nat.le_of_ble_eq_true rfl) ?_
  intro p e s m below meth c C9 hlk hret hnt hTh hW ls hl
  have hx := C9.1.1
  have hb := C9.1.2.1
  have hl : lv_has ls 3 [(0, .ref (ad 0)), (1, .int p1), (2, .int p2)] := hl
  unfold f_N_graceOn at hf
  refine lv_aload_n hx hb d_N_graceOn_0 rfl (lv_at hl 0 rfl) ?_
  refine gf_N_graceEnd C9 hW l_N_73 d_N_graceOn_1 ?_
  refine lv_iconst (v := 5) hx hb d_N_graceOn_4 (by decide) ?_
  refine lv_iload_n hx hb d_N_graceOn_5 rfl (lv_at hl 1 rfl) ?_
  refine lv_imul hx hb d_N_graceOn_6 ?_
  refine lv_iload_n hx hb d_N_graceOn_7 rfl (lv_at hl 2 rfl) ?_
  refine lv_iadd hx hb d_N_graceOn_8 ?_
  obtain ⟨g1, hf⟩ := rd_g hf
  refine al_m_graceEnd C9 hW rfl g1 d_N_graceOn_9 ?_
  refine lv_aload_n hx hb d_N_graceOn_10 rfl (lv_at hl 0 rfl) ?_
  refine gf_N_day C9 hW l_N_98 d_N_graceOn_11 ?_
  obtain ⟨z3, hz3, hf⟩ := rd_k_el hf
  refine rd_sel z3 (fun z => F0 m 22 ls (.int z :: [])) hz3 (fun hJ => ?_) ?_
  · refine lv_icmp_lt (tgt := 21) hx hb d_N_graceOn_14 (by decide) (fun c2 => ?_) (fun c2 => ?_)
    · have hJ := rd_selt (g := (fun z => F0 m 22 ls (.int z :: []))) hJ c2
      refine lv_iconst (v := 0) hx hb d_N_graceOn_21 (by decide) ?_
      exact hJ
    · have hJ := rd_self (g := (fun z => F0 m 22 ls (.int z :: []))) hJ c2
      refine lv_iconst (v := 1) hx hb d_N_graceOn_17 (by decide) ?_
      refine lv_goto (tgt := 22) hx hb d_N_graceOn_18 (by decide) ?_
      exact hJ
  have hb9 : z3 = 0 ∨ z3 = 1 := by rw [hz3]; split <;> simp
  obtain rfl := Option.some.inj hf
  exact rd_zret C9 hlk hret hW hb9 ⟨rfl, rfl⟩ (by decide) (by decide) d_N_graceOn_22
def lb_N_noGrace_2 (q1 : Int32) (Kf : Int32 → rd_M → Option (rd_M)) (rec : Int32 → rd_M → Option (rd_M)) (v2_2 : Int32) (v2_M : rd_M) : Option (rd_M) :=
  if 5 ≤ v2_2 then
    Kf v2_2 v2_M
  else
    if rd_in ((5 * q1) + v2_2) 50 then
    rd_k (rd_iU v2_M 21 (((5 * q1) + v2_2).toNatClampNeg) (-1)) fun M3 =>
    rec (v2_2 + 1) M3
    else none
def f_N_noGrace (M : rd_M) (p1 : Int32) : Option (rd_M) :=
  rd_it (fun _ _ => none) (lb_N_noGrace_2 p1 (fun w2_2 w2_M =>
    some w2_M)) 64 0 M
set_option maxRecDepth 100000 in
set_option maxHeartbeats 4000000 in
theorem c_N_noGrace {l : Launch} (hls : l.stackTraces = false) {D : va_G} {Ka : Nat → ClassId} {ad : Nat → Nat} {M : rd_M} (p1 : Int32)  {o : rd_M} (hf : f_N_noGrace M p1 = some o) :
    rd_Met l y_N_noGrace b_N_noGrace 3 none (0, 0, 0, 0) rd_T rd_ss D rd_cl (rd_ty Ka) (rm_L Ka) ad M [.ref (ad 0), .int p1] (fun r M1 => r = none ∧ o = M1) (fun _ => False) := by
  refine rd_body (by decide) (Nat.le_of_ble_eq_true rfl) ?_
  intro p e s m below meth c C9 hlk hret hnt hTh hW ls hl
  have hx := C9.1.1
  have hb := C9.1.2.1
  have hl : lv_has ls 3 [(0, .ref (ad 0)), (1, .int p1)] := hl
  unfold f_N_noGrace at hf
  refine lv_iconst (v := 0) hx hb d_N_noGrace_0 (by decide) ?_
  refine lv_istore_n (lv' := [(2, .int 0), (0, .ref (ad 0)), (1, .int p1)]) hx hb d_N_noGrace_1 rfl hl (by decide) rfl (fun ls hl => ?_)
  have loop_2 : ∀ (Kf : Int32 → rd_M → Option (rd_M)) (hk_2 : ∀ (w2_2 : Int32) (w2_M : rd_M) (H : Heap) (locs : List Loc) (ls : Array Slot), Kf w2_2 w2_M = some o → rd_W D rd_cl (rm_L Ka) ad (rd_A (rm_L Ka) ad s.heap.size) s.heap w2_M H locs → lv_has ls 3 [(2, .int w2_2), (0, .ref (ad 0)), (1, .int p1)] → W p l e { frames := 0, cells := 0, slots := 0, locals := 0 } s m [.ref (ad 0), .int p1].toArray below meth c H locs 0 0 (rd_Z below (rd_O D rd_cl (rm_L Ka) ad M (rd_A (rm_L Ka) ad s.heap.size) 0 0 (fun r M1 => r = none ∧ o = M1) (fun _ => False)) s) (F0 m 24 ls [])) (fu : Nat) (v2_2 : Int32) (v2_M : rd_M) (H : Heap) (locs : List Loc) (ls : Array Slot), rd_it (fun _ _ => none) (lb_N_noGrace_2 p1 Kf) fu v2_2 v2_M = some o → rd_W D rd_cl (rm_L Ka) ad (rd_A (rm_L Ka) ad s.heap.size) s.heap v2_M H locs → lv_has ls 3 [(2, .int v2_2), (0, .ref (ad 0)), (1, .int p1)] → W p l e { frames := 0, cells := 0, slots := 0, locals := 0 } s m [.ref (ad 0), .int p1].toArray below meth c H locs 0 0 (rd_Z below (rd_O D rd_cl (rm_L Ka) ad M (rd_A (rm_L Ka) ad s.heap.size) 0 0 (fun r M1 => r = none ∧ o = M1) (fun _ => False)) s) (F0 m 2 ls []) := by
    intro Kf hk_2 fu
    induction fu with
    | zero => intro _ _ H locs ls hf; exact (rd_nf hf).elim
    | succ fu ih_2 =>
      intro v2_2 v2_M H locs ls hf hW hl
      rw [rd_it_s] at hf
      unfold lb_N_noGrace_2 at hf
      refine lv_iload_n hx hb d_N_noGrace_2 rfl (lv_at hl 0 rfl) ?_
      refine lv_iconst (v := 5) hx hb d_N_noGrace_3 (by decide) ?_
      refine lv_icmp_ge (tgt := 24) hx hb d_N_noGrace_4 (by decide) (fun c4 => ?_) (fun c4 => ?_)
      · have hf := rd_t hf c4
        exact hk_2 _ _ _ _ _ hf hW (lv_sub hl [0, 1, 2] rfl)
      · have hf := rd_f hf c4
        refine lv_aload_n hx hb d_N_noGrace_7 rfl (lv_at hl 1 rfl) ?_
        refine gf_N_graceEnd C9 hW l_N_73 d_N_noGrace_8 ?_
        refine lv_iconst (v := 5) hx hb d_N_noGrace_11 (by decide) ?_
        refine lv_iload_n hx hb d_N_noGrace_12 rfl (lv_at hl 2 rfl) ?_
        refine lv_imul hx hb d_N_noGrace_13 ?_
        refine lv_iload_n hx hb d_N_noGrace_14 rfl (lv_at hl 0 rfl) ?_
        refine lv_iadd hx hb d_N_noGrace_15 ?_
        refine lv_iconst (v := (-1)) hx hb d_N_noGrace_16 (by decide) ?_
        obtain ⟨g5, hf⟩ := rd_g hf
        refine as_m_graceEnd C9 hW rfl g5 d_N_noGrace_17 (fun H locs hW => ?_)
        obtain ⟨M6, hM6, hf⟩ := rd_k_el hf
        rw [← hM6] at hW
        refine lv_iinc (v := v2_2 + 1) (lv' := [(2, .int (v2_2 + 1)), (0, .ref (ad 0)), (1, .int p1)]) hx hb d_N_noGrace_18 hl (k := 0) rfl rfl (by decide) rfl (fun ls hl => ?_)
        refine lv_goto (tgt := 2) hx hb d_N_noGrace_21 (by decide) ?_
        exact ih_2 _ _ _ _ _ hf hW (lv_sub hl [0, 1, 2] rfl)
  refine loop_2 _ ?_ 64 _ _ _ _ _ hf hW (lv_sub hl [0, 1, 2] rfl)
  intro w2_2 w2_M H locs ls hf hW hl
  obtain rfl := Option.some.inj hf
  exact rd_vret C9 hlk hret hW ⟨rfl, rfl⟩ (by decide) (by decide) d_N_noGrace_24
def lb_N_drop_12 (q1 : Int32) (Kf : Int32 → rd_M → Option (rd_M)) (rec : Int32 → rd_M → Option (rd_M)) (v12_2 : Int32) (v12_M : rd_M) : Option (rd_M) :=
  if rd_in q1 4 then
  if ((v12_M 4).1 q1.toNatClampNeg) ≤ v12_2 then
    Kf v12_2 v12_M
  else
    if rd_in (((12 * q1) + v12_2) + 1) 48 then
    if rd_in ((12 * q1) + v12_2) 48 then
    rd_k (rd_iU v12_M 5 (((12 * q1) + v12_2).toNatClampNeg) ((v12_M 5).1 ((((12 * q1) + v12_2) + 1).toNatClampNeg))) fun M8 =>
    rec (v12_2 + 1) M8
    else none
    else none
  else none
def f_N_drop (M : rd_M) (p1 : Int32) : Option (rd_M) :=
  if rd_in p1 4 then
  if rd_in p1 4 then
  rd_k (rd_iU M 4 p1.toNatClampNeg (((M 4).1 p1.toNatClampNeg) - 1)) fun M3 =>
  rd_it (fun _ _ => none) (lb_N_drop_12 p1 (fun w12_2 w12_M =>
    some w12_M)) 64 0 M3
  else none
  else none
set_option maxRecDepth 100000 in
set_option maxHeartbeats 4000000 in
theorem c_N_drop {l : Launch} (hls : l.stackTraces = false) {D : va_G} {Ka : Nat → ClassId} {ad : Nat → Nat} {M : rd_M} (p1 : Int32)  {o : rd_M} (hf : f_N_drop M p1 = some o) :
    rd_Met l y_N_drop b_N_drop 3 none (0, 0, 0, 0) rd_T rd_ss D rd_cl (rd_ty Ka) (rm_L Ka) ad M [.ref (ad 0), .int p1] (fun r M1 => r = none ∧ o = M1) (fun _ => False) := by
  refine rd_body (by decide) (Nat.le_of_ble_eq_true rfl) ?_
  intro p e s m below meth c C9 hlk hret hnt hTh hW ls hl
  have hx := C9.1.1
  have hb := C9.1.2.1
  have hl : lv_has ls 3 [(0, .ref (ad 0)), (1, .int p1)] := hl
  unfold f_N_drop at hf
  refine lv_aload_n hx hb d_N_drop_0 rfl (lv_at hl 0 rfl) ?_
  refine gf_N_messages C9 hW l_N_21 d_N_drop_1 ?_
  refine lv_iload_n hx hb d_N_drop_4 rfl (lv_at hl 1 rfl) ?_
  refine lv_dup2_11 hx hb d_N_drop_5 rfl rfl ?_
  obtain ⟨g1, hf⟩ := rd_g hf
  refine al_m_messages C9 hW rfl g1 d_N_drop_6 ?_
  refine lv_iconst (v := 1) hx hb d_N_drop_7 (by decide) ?_
  refine lv_isub hx hb d_N_drop_8 ?_
  obtain ⟨g2, hf⟩ := rd_g hf
  refine as_m_messages C9 hW rfl g2 d_N_drop_9 (fun H locs hW => ?_)
  obtain ⟨M3, hM3, hf⟩ := rd_k_el hf
  rw [← hM3] at hW
  refine lv_iconst (v := 0) hx hb d_N_drop_10 (by decide) ?_
  refine lv_istore_n (lv' := [(2, .int 0), (0, .ref (ad 0)), (1, .int p1)]) hx hb d_N_drop_11 rfl hl (by decide) rfl (fun ls hl => ?_)
  have loop_12 : ∀ (Kf : Int32 → rd_M → Option (rd_M)) (hk_12 : ∀ (w12_2 : Int32) (w12_M : rd_M) (H : Heap) (locs : List Loc) (ls : Array Slot), Kf w12_2 w12_M = some o → rd_W D rd_cl (rm_L Ka) ad (rd_A (rm_L Ka) ad s.heap.size) s.heap w12_M H locs → lv_has ls 3 [(2, .int w12_2), (0, .ref (ad 0)), (1, .int p1)] → W p l e { frames := 0, cells := 0, slots := 0, locals := 0 } s m [.ref (ad 0), .int p1].toArray below meth c H locs 0 0 (rd_Z below (rd_O D rd_cl (rm_L Ka) ad M (rd_A (rm_L Ka) ad s.heap.size) 0 0 (fun r M1 => r = none ∧ o = M1) (fun _ => False)) s) (F0 m 52 ls [])) (fu : Nat) (v12_2 : Int32) (v12_M : rd_M) (H : Heap) (locs : List Loc) (ls : Array Slot), rd_it (fun _ _ => none) (lb_N_drop_12 p1 Kf) fu v12_2 v12_M = some o → rd_W D rd_cl (rm_L Ka) ad (rd_A (rm_L Ka) ad s.heap.size) s.heap v12_M H locs → lv_has ls 3 [(2, .int v12_2), (0, .ref (ad 0)), (1, .int p1)] → W p l e { frames := 0, cells := 0, slots := 0, locals := 0 } s m [.ref (ad 0), .int p1].toArray below meth c H locs 0 0 (rd_Z below (rd_O D rd_cl (rm_L Ka) ad M (rd_A (rm_L Ka) ad s.heap.size) 0 0 (fun r M1 => r = none ∧ o = M1) (fun _ => False)) s) (F0 m 12 ls []) := by
    intro Kf hk_12 fu
    induction fu with
    | zero => intro _ _ H locs ls hf; exact (rd_nf hf).elim
    | succ fu ih_12 =>
      intro v12_2 v12_M H locs ls hf hW hl
      rw [rd_it_s] at hf
      unfold lb_N_drop_12 at hf
      refine lv_iload_n hx hb d_N_drop_12 rfl (lv_at hl 0 rfl) ?_
      refine lv_aload_n hx hb d_N_drop_13 rfl (lv_at hl 1 rfl) ?_
      refine gf_N_messages C9 hW l_N_21 d_N_drop_14 ?_
      refine lv_iload_n hx hb d_N_drop_17 rfl (lv_at hl 2 rfl) ?_
      obtain ⟨g9, hf⟩ := rd_g hf
      refine al_m_messages C9 hW rfl g9 d_N_drop_18 ?_
      refine lv_icmp_ge (tgt := 52) hx hb d_N_drop_19 (by decide) (fun c10 => ?_) (fun c10 => ?_)
      · have hf := rd_t hf c10
        exact hk_12 _ _ _ _ _ hf hW (lv_sub hl [0, 1, 2] rfl)
      · have hf := rd_f hf c10
        refine lv_aload_n hx hb d_N_drop_22 rfl (lv_at hl 1 rfl) ?_
        refine gf_N_message C9 hW l_N_25 d_N_drop_23 ?_
        refine lv_bipush (v := 12) hx hb d_N_drop_26 (by decide) ?_
        refine lv_iload_n hx hb d_N_drop_28 rfl (lv_at hl 2 rfl) ?_
        refine lv_imul hx hb d_N_drop_29 ?_
        refine lv_iload_n hx hb d_N_drop_30 rfl (lv_at hl 0 rfl) ?_
        refine lv_iadd hx hb d_N_drop_31 ?_
        refine lv_aload_n hx hb d_N_drop_32 rfl (lv_at hl 1 rfl) ?_
        refine gf_N_message C9 hW l_N_25 d_N_drop_33 ?_
        refine lv_bipush (v := 12) hx hb d_N_drop_36 (by decide) ?_
        refine lv_iload_n hx hb d_N_drop_38 rfl (lv_at hl 2 rfl) ?_
        refine lv_imul hx hb d_N_drop_39 ?_
        refine lv_iload_n hx hb d_N_drop_40 rfl (lv_at hl 0 rfl) ?_
        refine lv_iadd hx hb d_N_drop_41 ?_
        refine lv_iconst (v := 1) hx hb d_N_drop_42 (by decide) ?_
        refine lv_iadd hx hb d_N_drop_43 ?_
        obtain ⟨g11, hf⟩ := rd_g hf
        refine al_m_message C9 hW rfl g11 d_N_drop_44 ?_
        obtain ⟨g12, hf⟩ := rd_g hf
        refine as_m_message C9 hW rfl g12 d_N_drop_45 (fun H locs hW => ?_)
        obtain ⟨M13, hM13, hf⟩ := rd_k_el hf
        rw [← hM13] at hW
        refine lv_iinc (v := v12_2 + 1) (lv' := [(2, .int (v12_2 + 1)), (0, .ref (ad 0)), (1, .int p1)]) hx hb d_N_drop_46 hl (k := 0) rfl rfl (by decide) rfl (fun ls hl => ?_)
        refine lv_goto (tgt := 12) hx hb d_N_drop_49 (by decide) ?_
        exact ih_12 _ _ _ _ _ hf hW (lv_sub hl [0, 1, 2] rfl)
  refine loop_12 _ ?_ 64 _ _ _ _ _ hf hW (lv_sub hl [0, 1, 2] rfl)
  intro w12_2 w12_M H locs ls hf hW hl
  obtain rfl := Option.some.inj hf
  exact rd_vret C9 hlk hret hW ⟨rfl, rfl⟩ (by decide) (by decide) d_N_drop_52
def f_N_tell (M : rd_M) (p1 : Int32) (p2 : Int32) (p3 : Int32) : Option (rd_M) :=
  if rd_in p1 4 then
  if ((M 4).1 p1.toNatClampNeg) = 12 then
    (f_N_drop M p1).bind fun r9 =>
    if rd_in p1 4 then
    if rd_in ((12 * p1) + ((r9 4).1 p1.toNatClampNeg)) 48 then
    rd_k (rd_iU r9 5 (((12 * p1) + ((r9 4).1 p1.toNatClampNeg)).toNatClampNeg) ((10 * p2) + p3)) fun M12 =>
    if rd_in p1 4 then
    if rd_in p1 4 then
    rd_k (rd_iU M12 4 p1.toNatClampNeg (((M12 4).1 p1.toNatClampNeg) + 1)) fun M15 =>
    some M15
    else none
    else none
    else none
    else none
  else
    if rd_in p1 4 then
    if rd_in ((12 * p1) + ((M 4).1 p1.toNatClampNeg)) 48 then
    rd_k (rd_iU M 5 (((12 * p1) + ((M 4).1 p1.toNatClampNeg)).toNatClampNeg) ((10 * p2) + p3)) fun M5 =>
    if rd_in p1 4 then
    if rd_in p1 4 then
    rd_k (rd_iU M5 4 p1.toNatClampNeg (((M5 4).1 p1.toNatClampNeg) + 1)) fun M8 =>
    some M8
    else none
    else none
    else none
    else none
  else none
set_option maxRecDepth 100000 in
set_option maxHeartbeats 4000000 in
theorem c_N_tell {l : Launch} (hls : l.stackTraces = false) {D : va_G} {Ka : Nat → ClassId} {ad : Nat → Nat} {M : rd_M} (p1 : Int32) (p2 : Int32) (p3 : Int32)  {o : rd_M} (hf : f_N_tell M p1 p2 p3 = some o) :
    rd_Met l y_N_tell b_N_tell 4 none (1, 22, 0, 0) rd_T rd_ss D rd_cl (rd_ty Ka) (rm_L Ka) ad M [.ref (ad 0), .int p1, .int p2, .int p3] (fun r M1 => r = none ∧ o = M1) (fun _ => False) := by
  refine rd_body (by decide) (Nat.le_of_ble_eq_true rfl) ?_
  intro p e s m below meth c C9 hlk hret hnt hTh hW ls hl
  have hx := C9.1.1
  have hb := C9.1.2.1
  have hl : lv_has ls 4 [(0, .ref (ad 0)), (1, .int p1), (2, .int p2), (3, .int p3)] := hl
  unfold f_N_tell at hf
  refine lv_aload_n hx hb d_N_tell_0 rfl (lv_at hl 0 rfl) ?_
  refine gf_N_messages C9 hW l_N_21 d_N_tell_1 ?_
  refine lv_iload_n hx hb d_N_tell_4 rfl (lv_at hl 1 rfl) ?_
  obtain ⟨g1, hf⟩ := rd_g hf
  refine al_m_messages C9 hW rfl g1 d_N_tell_5 ?_
  refine lv_bipush (v := 12) hx hb d_N_tell_6 (by decide) ?_
  refine lv_icmp_ne (tgt := 16) hx hb d_N_tell_8 (by decide) (fun c2 => ?_) (fun c2 => ?_)
  · have hf := rd_f hf c2
    refine lv_aload_n hx hb d_N_tell_16 rfl (lv_at hl 0 rfl) ?_
    refine gf_N_message C9 hW l_N_25 d_N_tell_17 ?_
    refine lv_bipush (v := 12) hx hb d_N_tell_20 (by decide) ?_
    refine lv_iload_n hx hb d_N_tell_22 rfl (lv_at hl 1 rfl) ?_
    refine lv_imul hx hb d_N_tell_23 ?_
    refine lv_aload_n hx hb d_N_tell_24 rfl (lv_at hl 0 rfl) ?_
    refine gf_N_messages C9 hW l_N_21 d_N_tell_25 ?_
    refine lv_iload_n hx hb d_N_tell_28 rfl (lv_at hl 1 rfl) ?_
    obtain ⟨g3, hf⟩ := rd_g hf
    refine al_m_messages C9 hW rfl g3 d_N_tell_29 ?_
    refine lv_iadd hx hb d_N_tell_30 ?_
    refine lv_bipush (v := 10) hx hb d_N_tell_31 (by decide) ?_
    refine lv_iload_n hx hb d_N_tell_33 rfl (lv_at hl 2 rfl) ?_
    refine lv_imul hx hb d_N_tell_34 ?_
    refine lv_iload_n hx hb d_N_tell_35 rfl (lv_at hl 3 rfl) ?_
    refine lv_iadd hx hb d_N_tell_36 ?_
    obtain ⟨g4, hf⟩ := rd_g hf
    refine as_m_message C9 hW rfl g4 d_N_tell_37 (fun H locs hW => ?_)
    obtain ⟨M5, hM5, hf⟩ := rd_k_el hf
    rw [← hM5] at hW
    refine lv_aload_n hx hb d_N_tell_38 rfl (lv_at hl 0 rfl) ?_
    refine gf_N_messages C9 hW l_N_21 d_N_tell_39 ?_
    refine lv_iload_n hx hb d_N_tell_42 rfl (lv_at hl 1 rfl) ?_
    refine lv_dup2_11 hx hb d_N_tell_43 rfl rfl ?_
    obtain ⟨g6, hf⟩ := rd_g hf
    refine al_m_messages C9 hW rfl g6 d_N_tell_44 ?_
    refine lv_iconst (v := 1) hx hb d_N_tell_45 (by decide) ?_
    refine lv_iadd hx hb d_N_tell_46 ?_
    obtain ⟨g7, hf⟩ := rd_g hf
    refine as_m_messages C9 hW rfl g7 d_N_tell_47 (fun H locs hW => ?_)
    obtain ⟨M8, hM8, hf⟩ := rd_k_el hf
    rw [← hM8] at hW
    obtain rfl := Option.some.inj hf
    exact rd_vret C9 hlk hret hW ⟨rfl, rfl⟩ (by decide) (by decide) d_N_tell_48
  · have hf := rd_t hf c2
    refine lv_aload_n hx hb d_N_tell_11 rfl (lv_at hl 0 rfl) ?_
    refine lv_iload_n hx hb d_N_tell_12 rfl (lv_at hl 1 rfl) ?_
    obtain ⟨r9, qr9, hf⟩ := rd_bind hf
    refine rd_callV (As := [.int p1]) (rest := []) rd_gd C9 hTh hW (c_N_drop hls p1 qr9) kc_N_drop ki_N_drop ks_N_drop l_N_101 rfl (lt_N) (ce_N) rfl ⟨Nat.le_of_ble_eq_true rfl, Nat.le_of_ble_eq_true rfl⟩ ⟨Nat.le_of_ble_eq_true rfl, Nat.le_of_ble_eq_true rfl⟩ hl.1 rfl (Nat.le_of_ble_eq_true rfl) d_N_tell_13 (fun E _ _ _ _ hex => hex.elim) (fun rr MM H locs hp hW => ?_)
    obtain ⟨rfl, rfl⟩ := hp
    refine lv_aload_n hx hb d_N_tell_16 rfl (lv_at hl 0 rfl) ?_
    refine gf_N_message C9 hW l_N_25 d_N_tell_17 ?_
    refine lv_bipush (v := 12) hx hb d_N_tell_20 (by decide) ?_
    refine lv_iload_n hx hb d_N_tell_22 rfl (lv_at hl 1 rfl) ?_
    refine lv_imul hx hb d_N_tell_23 ?_
    refine lv_aload_n hx hb d_N_tell_24 rfl (lv_at hl 0 rfl) ?_
    refine gf_N_messages C9 hW l_N_21 d_N_tell_25 ?_
    refine lv_iload_n hx hb d_N_tell_28 rfl (lv_at hl 1 rfl) ?_
    obtain ⟨g10, hf⟩ := rd_g hf
    refine al_m_messages C9 hW rfl g10 d_N_tell_29 ?_
    refine lv_iadd hx hb d_N_tell_30 ?_
    refine lv_bipush (v := 10) hx hb d_N_tell_31 (by decide) ?_
    refine lv_iload_n hx hb d_N_tell_33 rfl (lv_at hl 2 rfl) ?_
    refine lv_imul hx hb d_N_tell_34 ?_
    refine lv_iload_n hx hb d_N_tell_35 rfl (lv_at hl 3 rfl) ?_
    refine lv_iadd hx hb d_N_tell_36 ?_
    obtain ⟨g11, hf⟩ := rd_g hf
    refine as_m_message C9 hW rfl g11 d_N_tell_37 (fun H locs hW => ?_)
    obtain ⟨M12, hM12, hf⟩ := rd_k_el hf
    rw [← hM12] at hW
    refine lv_aload_n hx hb d_N_tell_38 rfl (lv_at hl 0 rfl) ?_
    refine gf_N_messages C9 hW l_N_21 d_N_tell_39 ?_
    refine lv_iload_n hx hb d_N_tell_42 rfl (lv_at hl 1 rfl) ?_
    refine lv_dup2_11 hx hb d_N_tell_43 rfl rfl ?_
    obtain ⟨g13, hf⟩ := rd_g hf
    refine al_m_messages C9 hW rfl g13 d_N_tell_44 ?_
    refine lv_iconst (v := 1) hx hb d_N_tell_45 (by decide) ?_
    refine lv_iadd hx hb d_N_tell_46 ?_
    obtain ⟨g14, hf⟩ := rd_g hf
    refine as_m_messages C9 hW rfl g14 d_N_tell_47 (fun H locs hW => ?_)
    obtain ⟨M15, hM15, hf⟩ := rd_k_el hf
    rw [← hM15] at hW
    obtain rfl := Option.some.inj hf
    exact rd_vret C9 hlk hret hW ⟨rfl, rfl⟩ (by decide) (by decide) d_N_tell_48
def lb_N_placeOf_3 (M : rd_M) (q1 : Int32) (q2 : Int32) (q3 : Int32) (Kf : Int32 → Option (Int32)) (rec : Int32 → Option (Int32)) (v3_4 : Int32) : Option (Int32) :=
  if rd_in ((2 * q1) + q2) 20 then
  if ((M 19).1 (((2 * q1) + q2).toNatClampNeg)) ≤ v3_4 then
    Kf v3_4
  else
    if rd_in (((6 * q1) + (3 * q2)) + v3_4) 60 then
    if ((M 18).1 ((((6 * q1) + (3 * q2)) + v3_4).toNatClampNeg)) = q3 then
      some v3_4
    else
      rec (v3_4 + 1)
    else none
  else none
def f_N_placeOf (M : rd_M) (p1 : Int32) (p2 : Int32) (p3 : Int32) : Option (Int32) :=
  rd_it (fun _ => none) (lb_N_placeOf_3 M p1 p2 p3 (fun w3_4 =>
    some (-1))) 64 0
set_option maxRecDepth 100000 in
set_option maxHeartbeats 4000000 in
theorem c_N_placeOf {l : Launch} (hls : l.stackTraces = false) {D : va_G} {Ka : Nat → ClassId} {ad : Nat → Nat} {M : rd_M} (p1 : Int32) (p2 : Int32) (p3 : Int32)  {o : Int32} (hf : f_N_placeOf M p1 p2 p3 = some o) :
    rd_Met l y_N_placeOf b_N_placeOf 5 (some .int) (0, 0, 0, 0) rd_T rd_ss D rd_cl (rd_ty Ka) (rm_L Ka) ad M [.ref (ad 0), .int p1, .int p2, .int p3] (fun r M1 => r = some (.int o) ∧ M = M1) (fun _ => False) := by
  refine rd_body (by decide) (Nat.le_of_ble_eq_true rfl) ?_
  intro p e s m below meth c C9 hlk hret hnt hTh hW ls hl
  have hx := C9.1.1
  have hb := C9.1.2.1
  have hl : lv_has ls 5 [(0, .ref (ad 0)), (1, .int p1), (2, .int p2), (3, .int p3)] := hl
  unfold f_N_placeOf at hf
  refine lv_iconst (v := 0) hx hb d_N_placeOf_0 (by decide) ?_
  refine lv_istore (lv' := [(4, .int 0), (0, .ref (ad 0)), (1, .int p1), (2, .int p2), (3, .int p3)]) hx hb d_N_placeOf_1 hl (by decide) rfl (fun ls hl => ?_)
  have loop_3 : ∀ (Kf : Int32 → Option (Int32)) (hk_3 : ∀ (w3_4 : Int32) (H : Heap) (locs : List Loc) (ls : Array Slot), Kf w3_4 = some o → rd_W D rd_cl (rm_L Ka) ad (rd_A (rm_L Ka) ad s.heap.size) s.heap M H locs → lv_has ls 5 [(4, .int w3_4), (0, .ref (ad 0)), (1, .int p1), (2, .int p2), (3, .int p3)] → W p l e { frames := 0, cells := 0, slots := 0, locals := 0 } s m [.ref (ad 0), .int p1, .int p2, .int p3].toArray below meth c H locs 0 0 (rd_Z below (rd_O D rd_cl (rm_L Ka) ad M (rd_A (rm_L Ka) ad s.heap.size) 0 0 (fun r M1 => r = some (.int o) ∧ M = M1) (fun _ => False)) s) (F0 m 47 ls [])) (fu : Nat) (v3_4 : Int32) (H : Heap) (locs : List Loc) (ls : Array Slot), rd_it (fun _ => none) (lb_N_placeOf_3 M p1 p2 p3 Kf) fu v3_4 = some o → rd_W D rd_cl (rm_L Ka) ad (rd_A (rm_L Ka) ad s.heap.size) s.heap M H locs → lv_has ls 5 [(4, .int v3_4), (0, .ref (ad 0)), (1, .int p1), (2, .int p2), (3, .int p3)] → W p l e { frames := 0, cells := 0, slots := 0, locals := 0 } s m [.ref (ad 0), .int p1, .int p2, .int p3].toArray below meth c H locs 0 0 (rd_Z below (rd_O D rd_cl (rm_L Ka) ad M (rd_A (rm_L Ka) ad s.heap.size) 0 0 (fun r M1 => r = some (.int o) ∧ M = M1) (fun _ => False)) s) (F0 m 3 ls []) := by
    intro Kf hk_3 fu
    induction fu with
    | zero => intro _ H locs ls hf; exact (rd_nf hf).elim
    | succ fu ih_3 =>
      intro v3_4 H locs ls hf hW hl
      rw [rd_it_s] at hf
      unfold lb_N_placeOf_3 at hf
      refine lv_iload hx hb d_N_placeOf_3 (lv_at hl 0 rfl) ?_
      refine lv_aload_n hx hb d_N_placeOf_5 rfl (lv_at hl 1 rfl) ?_
      refine gf_N_uses C9 hW l_N_67 d_N_placeOf_6 ?_
      refine lv_iconst (v := 2) hx hb d_N_placeOf_9 (by decide) ?_
      refine lv_iload_n hx hb d_N_placeOf_10 rfl (lv_at hl 2 rfl) ?_
      refine lv_imul hx hb d_N_placeOf_11 ?_
      refine lv_iload_n hx hb d_N_placeOf_12 rfl (lv_at hl 3 rfl) ?_
      refine lv_iadd hx hb d_N_placeOf_13 ?_
      obtain ⟨g5, hf⟩ := rd_g hf
      refine al_m_uses C9 hW rfl g5 d_N_placeOf_14 ?_
      refine lv_icmp_ge (tgt := 47) hx hb d_N_placeOf_15 (by decide) (fun c6 => ?_) (fun c6 => ?_)
      · have hf := rd_t hf c6
        exact hk_3 _ _ _ _ hf hW (lv_sub hl [0, 1, 2, 3, 4] rfl)
      · have hf := rd_f hf c6
        refine lv_aload_n hx hb d_N_placeOf_18 rfl (lv_at hl 1 rfl) ?_
        refine gf_N_used C9 hW l_N_64 d_N_placeOf_19 ?_
        refine lv_bipush (v := 6) hx hb d_N_placeOf_22 (by decide) ?_
        refine lv_iload_n hx hb d_N_placeOf_24 rfl (lv_at hl 2 rfl) ?_
        refine lv_imul hx hb d_N_placeOf_25 ?_
        refine lv_iconst (v := 3) hx hb d_N_placeOf_26 (by decide) ?_
        refine lv_iload_n hx hb d_N_placeOf_27 rfl (lv_at hl 3 rfl) ?_
        refine lv_imul hx hb d_N_placeOf_28 ?_
        refine lv_iadd hx hb d_N_placeOf_29 ?_
        refine lv_iload hx hb d_N_placeOf_30 (lv_at hl 0 rfl) ?_
        refine lv_iadd hx hb d_N_placeOf_32 ?_
        obtain ⟨g7, hf⟩ := rd_g hf
        refine al_m_used C9 hW rfl g7 d_N_placeOf_33 ?_
        refine lv_iload_n hx hb d_N_placeOf_34 rfl (lv_at hl 4 rfl) ?_
        refine lv_icmp_ne (tgt := 41) hx hb d_N_placeOf_35 (by decide) (fun c8 => ?_) (fun c8 => ?_)
        · have hf := rd_f hf c8
          refine lv_iinc (v := v3_4 + 1) (lv' := [(4, .int (v3_4 + 1)), (0, .ref (ad 0)), (1, .int p1), (2, .int p2), (3, .int p3)]) hx hb d_N_placeOf_41 hl (k := 0) rfl rfl (by decide) rfl (fun ls hl => ?_)
          refine lv_goto (tgt := 3) hx hb d_N_placeOf_44 (by decide) ?_
          exact ih_3 _ _ _ _ hf hW (lv_sub hl [0, 1, 2, 3, 4] rfl)
        · have hf := rd_t hf c8
          refine lv_iload hx hb d_N_placeOf_38 (lv_at hl 0 rfl) ?_
          obtain rfl := Option.some.inj hf
          exact rd_iret C9 hlk hret hW ⟨rfl, rfl⟩ (by decide) (by decide) d_N_placeOf_40
  refine loop_3 _ ?_ 64 _ _ _ _ hf hW (lv_sub hl [0, 1, 2, 3, 4] rfl)
  intro w3_4 H locs ls hf hW hl
  refine lv_iconst (v := (-1)) hx hb d_N_placeOf_47 (by decide) ?_
  obtain rfl := Option.some.inj hf
  exact rd_iret C9 hlk hret hW ⟨rfl, rfl⟩ (by decide) (by decide) d_N_placeOf_48
