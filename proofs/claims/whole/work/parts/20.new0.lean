theorem oi_i : Cond.instanceMethod Lib.objectInit ∈ rd_T := List.mem_append_right _ (List.mem_append_left _ (List.mem_of_getElem? (i := 5) rfl))
theorem oi_c : Cond.code Lib.objectInit ⟨#[0xb1]⟩ 1 none ∈ rd_T := List.mem_append_right _ (List.mem_append_left _ (List.mem_of_getElem? (i := 6) rfl))
theorem ar_double : Cond.arrayClass .double ∈ rd_T := List.mem_append_right _ (List.mem_append_left _ (List.mem_of_getElem? (i := 30) rfl))
theorem ar_int : Cond.arrayClass .int ∈ rd_T := List.mem_append_right _ (List.mem_append_left _ (List.mem_of_getElem? (i := 31) rfl))
theorem ar_long : Cond.arrayClass .long ∈ rd_T := List.mem_append_right _ (List.mem_append_right _ (List.mem_append_right _ (List.mem_append_right _ (List.mem_append_right _ (List.mem_append_right _ (List.mem_append_right _ (List.mem_append_right _ (List.mem_append_right _ (List.mem_append_right _ (List.mem_append_right _ (List.mem_append_left _ (List.mem_of_getElem? (i := 57) rfl))))))))))))
theorem it_K : Cond.instantiable R_K 5 ∈ rd_T := List.mem_append_right _ (List.mem_append_left _ (List.mem_of_getElem? (i := 0) rfl))
theorem ii_K : Cond.initialized R_K ∈ rd_T := List.mem_append_left _ (List.mem_of_getElem? (i := 49) rfl)
theorem bl_K : ∀ j, j < 5 → defaultValue (ft_K j) = vp_V [.null, .null, .null, .null, .int 0] j := by
  intro j hj
  match j, hj with
  | 0, _ => rfl
  | 1, _ => rfl
  | 2, _ => rfl
  | 3, _ => rfl
  | 4, _ => rfl
  | k + 5, h => exact absurd h (by omega)
theorem it_A : Cond.instantiable R_A 4 ∈ rd_T := List.mem_append_right _ (List.mem_append_left _ (List.mem_of_getElem? (i := 8) rfl))
theorem ii_A : Cond.initialized R_A ∈ rd_T := List.mem_append_left _ (List.mem_of_getElem? (i := 50) rfl)
theorem bl_A : ∀ j, j < 4 → defaultValue (ft_A j) = vp_V [.null, .null, .double 0, .int 0] j := by
  intro j hj
  match j, hj with
  | 0, _ => rfl
  | 1, _ => rfl
  | 2, _ => rfl
  | 3, _ => rfl
  | k + 4, h => exact absurd h (by omega)
theorem it_S : Cond.instantiable R_S 2 ∈ rd_T := List.mem_append_right _ (List.mem_append_left _ (List.mem_of_getElem? (i := 33) rfl))
theorem ii_S : Cond.initialized R_S ∈ rd_T := List.mem_append_left _ (List.mem_of_getElem? (i := 51) rfl)
theorem bl_S : ∀ j, j < 2 → defaultValue (ft_S j) = vp_V [.null, .int 0] j := by
  intro j hj
  match j, hj with
  | 0, _ => rfl
  | 1, _ => rfl
  | k + 2, h => exact absurd h (by omega)
theorem it_T : Cond.instantiable R_T 4 ∈ rd_T := List.mem_append_right _ (List.mem_append_left _ (List.mem_of_getElem? (i := 39) rfl))
theorem ii_T : Cond.initialized R_T ∈ rd_T := List.mem_append_left _ (List.mem_of_getElem? (i := 52) rfl)
theorem bl_T : ∀ j, j < 4 → defaultValue (ft_T j) = vp_V [.int 0, .int 0, .int 0, .int 0] j := by
  intro j hj
  match j, hj with
  | 0, _ => rfl
  | 1, _ => rfl
  | 2, _ => rfl
  | 3, _ => rfl
  | k + 4, h => exact absurd h (by omega)
theorem it_R : Cond.instantiable R_R 2 ∈ rd_T := List.mem_append_right _ (List.mem_append_right _ (List.mem_append_left _ (List.mem_of_getElem? (i := 17) rfl)))
theorem ii_R : Cond.initialized R_R ∈ rd_T := List.mem_append_left _ (List.mem_of_getElem? (i := 54) rfl)
theorem bl_R : ∀ j, j < 2 → defaultValue (ft_R j) = vp_V [.null, .int 0] j := by
  intro j hj
  match j, hj with
  | 0, _ => rfl
  | 1, _ => rfl
  | k + 2, h => exact absurd h (by omega)
theorem it_D : Cond.instantiable R_D 12 ∈ rd_T := List.mem_append_right _ (List.mem_append_right _ (List.mem_append_left _ (List.mem_of_getElem? (i := 11) rfl)))
theorem ii_D : Cond.initialized R_D ∈ rd_T := List.mem_append_left _ (List.mem_of_getElem? (i := 53) rfl)
theorem bl_D : ∀ j, j < 12 → defaultValue (ft_D j) = vp_V [.null, .null, .null, .int 0, .int 0, .int 0, .int 0, .int 0, .int 0, .int 0, .int 0, .int 0] j := by
  intro j hj
  match j, hj with
  | 0, _ => rfl
  | 1, _ => rfl
  | 2, _ => rfl
  | 3, _ => rfl
  | 4, _ => rfl
  | 5, _ => rfl
  | 6, _ => rfl
  | 7, _ => rfl
  | 8, _ => rfl
  | 9, _ => rfl
  | 10, _ => rfl
  | 11, _ => rfl
  | k + 12, h => exact absurd h (by omega)
theorem it_N : Cond.instantiable R_N 25 ∈ rd_T := List.mem_append_right _ (List.mem_append_right _ (List.mem_append_right _ (List.mem_append_right _ (List.mem_append_right _ (List.mem_append_right _ (List.mem_append_right _ (List.mem_append_right _ (List.mem_append_right _ (List.mem_append_right _ (List.mem_append_left _ (List.mem_of_getElem? (i := 39) rfl)))))))))))
theorem ii_N : Cond.initialized R_N ∈ rd_T := List.mem_append_left _ (List.mem_of_getElem? (i := 55) rfl)
theorem bl_N : ∀ j, j < 25 → defaultValue (ft_N j) = vp_V [.int 0, .int 0, .null, .null, .null, .null, .null, .int 0, .null, .int 0, .null, .null, .null, .null, .null, .null, .null, .null, .null, .null, .null, .null, .null, .null, .null] j := by
  intro j hj
  match j, hj with
  | 0, _ => rfl
  | 1, _ => rfl
  | 2, _ => rfl
  | 3, _ => rfl
  | 4, _ => rfl
  | 5, _ => rfl
  | 6, _ => rfl
  | 7, _ => rfl
  | 8, _ => rfl
  | 9, _ => rfl
  | 10, _ => rfl
  | 11, _ => rfl
  | 12, _ => rfl
  | 13, _ => rfl
  | 14, _ => rfl
  | 15, _ => rfl
  | 16, _ => rfl
  | 17, _ => rfl
  | 18, _ => rfl
  | 19, _ => rfl
  | 20, _ => rfl
  | 21, _ => rfl
  | 22, _ => rfl
  | 23, _ => rfl
  | 24, _ => rfl
  | k + 25, h => exact absurd h (by omega)
abbrev g_ao : List String := ["RegistryDesk$Account", "RegistryDesk$Shelf", "RegistryDesk$Thing", "RegistryDesk$Row", "RegistryDesk$Domain"]
def ac_C (Ka : Nat → ClassId) (a k : Nat) : va_E := if k = 0 then .inr (1, [.ref (a + 1), .ref (a + 2), .double 0, .int 0]) else if k = 1 then .inl (Ka 2, 4, .inr (.inr (.inr (.inl (fun _ => 0))))) else .inl (Ka 0, 12, .inl (fun _ => 0))
def th_C (a k : Nat) : va_E := .inr (3, [.int 0, .int (-1), .int (-1), .int 0])
def ro_C (Ka : Nat → ClassId) (a k : Nat) : va_E := if k = 0 then .inr (4, [.ref (a + 1), .int 0]) else .inl (Ka 0, 3, .inl (fun _ => 0))
def sh_C (Ka : Nat → ClassId) (a k : Nat) : va_E := if k = 0 then .inr (2, [.ref (a + 1), .int 0]) else if k = 1 then .inl (Ka 5, 8, .inr (.inr (.inr (.inr (fun i => some (a + 2 + i)))))) else .inr (3, [.int 0, .int (-1), .int (-1), .int 0])
def do_C (Ka : Nat → ClassId) (a k : Nat) : va_E := if k = 0 then .inr (5, [.ref (a + 1), .ref (a + 6), .ref (a + 7), .int 0, .int 0, .int 0, .int 0, .int 0, .int 0, .int 0, .int 0, .int 0]) else if k = 1 then .inl (Ka 6, 2, .inr (.inr (.inr (.inr (fun i => some (a + 2 + 2 * i)))))) else if k = 2 then .inr (4, [.ref (a + 3), .int 0]) else if k = 3 then .inl (Ka 0, 3, .inl (fun _ => 0)) else if k = 4 then .inr (4, [.ref (a + 5), .int 0]) else if k = 5 then .inl (Ka 0, 3, .inl (fun _ => 0)) else if k = 6 then .inl (Ka 2, 5, .inr (.inr (.inr (.inl (fun _ => 0))))) else .inl (Ka 0, 5, .inl (fun _ => 0))
def dk_0 : rd_M := fun k => if k = 1 then (fun _ => 0, fun _ => 0, vf_upd (vf_upd (vf_upd (vf_upd (fun _ => 0) 0 FP.dconst1) 1 FP.dconst1) 2 FP.dconst1) 3 FP.dconst1) else if (18 ≤ k ∧ k < 26) ∨ (28 ≤ k ∧ k < 36) then (fun j => if j = 1 then -1 else if j = 2 then -1 else 0, fun _ => 0, fun _ => 0) else (fun _ => 0, fun _ => 0, fun _ => 0)
def dk_C (Ka : Nat → ClassId) (a k : Nat) : va_E := dk_c Ka (fun i => a + i) k (dk_0 k)
def rm_0 : rd_M := fun k => if k = 1 then (fun _ => 0, (vp_updL (vp_updL (vp_updL (vp_updL (fun _ => 0) 0 64) 1 64) 2 64) 3 64), fun _ => 0) else if k = 10 then ((upd (upd (upd (upd (upd (upd (upd (upd (upd (upd (fun _ => 0) 0 (-1)) 1 (-1)) 2 (-1)) 3 (-1)) 4 (-1)) 5 (-1)) 6 (-1)) 7 (-1)) 8 (-1)) 9 (-1)), fun _ => 0, fun _ => 0) else (fun _ => 0, fun _ => 0, fun _ => 0)
def rm_C (Ka : Nat → ClassId) (a k : Nat) : va_E := rm_c Ka (fun i => a + i) k (rm_0 k)
set_option maxRecDepth 100000 in
set_option maxHeartbeats 4000000 in
theorem c_A_init (l : Launch) (D : va_G) (Ka : Nat → ClassId) : gN l y_A_init b_A_init 1 (1, 12, 2, 16) rd_T D rd_cl (rd_ty Ka) g_ao (.inr (1, [.null, .null, .double 0, .int 0])) 3 (ac_C Ka) := by
  refine g_body (by decide) rfl (by decide) ?_
  intro a p e s m below meth c C9 hlk hret hin hsz hW ls hl
  have hx := C9.1.1
  have hb := C9.1.2.1
  have hown := C9.1.2.2.2.1
  have hts := C9.1.2.2.2.2
  refine lv_aload_n hx hb d_A_init_0 rfl (lv_at hl 0 rfl) ?_
  refine g_obj (rest := []) C9 l_A_3 oi_i oi_c hl.1 ⟨Nat.le_of_ble_eq_true rfl, Nat.le_of_ble_eq_true rfl⟩ d_A_init_1 ?_
  refine lv_aload_n hx hb d_A_init_4 rfl (lv_at hl 0 rfl) ?_
  refine lv_iconst (v := 4) hx hb d_A_init_5 (by decide) ?_
  refine g_newa (atype := .double) (N := 4) (a0 := (4, .inr (.inr (.inr (.inl (fun _ => 0)))))) C9 hW (by show s.heap.size + 0 = a + 1; omega) (fun h => absurd h (by decide)) ar_double (t0 := 2) rfl (by intro z h; cases h) (fun _ => rfl) (by decide) (by decide) (by decide) (Nat.le_of_ble_eq_true rfl) (Nat.le_of_ble_eq_true rfl) d_A_init_6 (fun H hW => ?_)
  have hW : gw D rd_cl a 2 _ s.heap H _ := hW
  refine g_putF hin C9 hW (k := 0) (by decide) (fs := [.null, .null, .double 0, .int 0]) rfl rfl fi_A ft_A ft_A_ok fn_A 0 (by decide) l_A_9 rfl rfl (t := (.array .double)) (by decide +kernel) rfl rfl (Nat.le_of_ble_eq_true rfl) d_A_init_8 (fun H locs hW => ?_)
  have hW : gw D rd_cl a 2 _ s.heap H _ := hW
  refine lv_aload_n hx hb d_A_init_11 rfl (lv_at hl 0 rfl) ?_
  refine lv_bipush (v := 12) hx hb d_A_init_12 (by decide) ?_
  refine g_newa (atype := .int) (N := 12) (a0 := (12, .inl (fun _ => 0))) C9 hW (by show s.heap.size + 1 = a + 2; omega) (fun h => absurd h (by decide)) ar_int (t0 := 0) rfl (by intro z h; cases h) (fun _ => rfl) (by decide) (by decide) (by decide) (Nat.le_of_ble_eq_true rfl) (Nat.le_of_ble_eq_true rfl) d_A_init_14 (fun H hW => ?_)
  have hW : gw D rd_cl a 3 _ s.heap H _ := hW
  refine g_putF hin C9 hW (k := 0) (by decide) (fs := [.ref (a + 1), .null, .double 0, .int 0]) rfl rfl fi_A ft_A ft_A_ok fn_A 1 (by decide) l_A_15 rfl rfl (t := (.array .int)) (by decide +kernel) rfl rfl (Nat.le_of_ble_eq_true rfl) d_A_init_16 (fun H locs hW => ?_)
  have hW : gw D rd_cl a 3 _ s.heap H _ := hW
  refine lv_aload_n hx hb d_A_init_19 rfl (lv_at hl 0 rfl) ?_
  refine lv_dconst0 hx hb d_A_init_20 ?_
  refine g_put C9 hW (k := 0) (by decide) (fs := [.ref (a + 1), .ref (a + 2), .double 0, .int 0]) rfl rfl fi_A ft_A ft_A_ok fn_A 2 (by decide) l_A_19 rfl (t := .double) (by decide +kernel) rfl rfl (Nat.le_of_ble_eq_true rfl) d_A_init_21 (fun H locs hW => ?_)
  have hW : gw D rd_cl a 3 _ s.heap H _ := hW
  refine lv_aload_n hx hb d_A_init_24 rfl (lv_at hl 0 rfl) ?_
  refine lv_iconst (v := 0) hx hb d_A_init_25 (by decide) ?_
  refine g_put C9 hW (k := 0) (by decide) (fs := [.ref (a + 1), .ref (a + 2), .double FP.dconst0, .int 0]) rfl rfl fi_A ft_A ft_A_ok fn_A 3 (by decide) l_A_23 rfl (t := .int) (by decide +kernel) rfl rfl (Nat.le_of_ble_eq_true rfl) d_A_init_26 (fun H locs hW => ?_)
  have hW : gw D rd_cl a 3 _ s.heap H _ := hW
  refine g_ret C9 hlk hret hW (fun k hk => ?_) (by decide) (by decide) d_A_init_29
  match k, hk with
  | 0, _ => exact Or.inl rfl
  | 1, _ => exact Or.inl rfl
  | 2, _ => exact Or.inl rfl
  | k + 3, h => exact absurd h (by omega)
set_option maxRecDepth 100000 in
set_option maxHeartbeats 4000000 in
theorem c_T_init (l : Launch) (D : va_G) (Ka : Nat → ClassId) : gN l y_T_init b_T_init 1 (1, 12, 0, 0) rd_T D rd_cl (rd_ty Ka) g_ao (.inr (3, [.int 0, .int 0, .int 0, .int 0])) 1 th_C := by
  refine g_body (by decide) rfl (by decide) ?_
  intro a p e s m below meth c C9 hlk hret hin hsz hW ls hl
  have hx := C9.1.1
  have hb := C9.1.2.1
  have hown := C9.1.2.2.2.1
  have hts := C9.1.2.2.2.2
  refine lv_aload_n hx hb d_T_init_0 rfl (lv_at hl 0 rfl) ?_
  refine g_obj (rest := []) C9 l_T_3 oi_i oi_c hl.1 ⟨Nat.le_of_ble_eq_true rfl, Nat.le_of_ble_eq_true rfl⟩ d_T_init_1 ?_
  refine lv_aload_n hx hb d_T_init_4 rfl (lv_at hl 0 rfl) ?_
  refine lv_iconst (v := 0) hx hb d_T_init_5 (by decide) ?_
  refine g_put C9 hW (k := 0) (by decide) (fs := [.int 0, .int 0, .int 0, .int 0]) rfl rfl fi_T ft_T ft_T_ok fn_T 0 (by decide) l_T_9 rfl (t := .boolean) (by decide +kernel) rfl rfl (Nat.le_of_ble_eq_true rfl) d_T_init_6 (fun H locs hW => ?_)
  have hW : gw D rd_cl a 1 _ s.heap H _ := hW
  refine lv_aload_n hx hb d_T_init_9 rfl (lv_at hl 0 rfl) ?_
  refine lv_iconst (v := (-1)) hx hb d_T_init_10 (by decide) ?_
  refine g_put C9 hW (k := 0) (by decide) (fs := [.int 0, .int 0, .int 0, .int 0]) rfl rfl fi_T ft_T ft_T_ok fn_T 1 (by decide) l_T_15 rfl (t := .int) (by decide +kernel) rfl rfl (Nat.le_of_ble_eq_true rfl) d_T_init_11 (fun H locs hW => ?_)
  have hW : gw D rd_cl a 1 _ s.heap H _ := hW
  refine lv_aload_n hx hb d_T_init_14 rfl (lv_at hl 0 rfl) ?_
  refine lv_iconst (v := (-1)) hx hb d_T_init_15 (by decide) ?_
  refine g_put C9 hW (k := 0) (by decide) (fs := [.int 0, .int (-1), .int 0, .int 0]) rfl rfl fi_T ft_T ft_T_ok fn_T 2 (by decide) l_T_19 rfl (t := .int) (by decide +kernel) rfl rfl (Nat.le_of_ble_eq_true rfl) d_T_init_16 (fun H locs hW => ?_)
  have hW : gw D rd_cl a 1 _ s.heap H _ := hW
  refine lv_aload_n hx hb d_T_init_19 rfl (lv_at hl 0 rfl) ?_
  refine lv_iconst (v := 0) hx hb d_T_init_20 (by decide) ?_
  refine g_put C9 hW (k := 0) (by decide) (fs := [.int 0, .int (-1), .int (-1), .int 0]) rfl rfl fi_T ft_T ft_T_ok fn_T 3 (by decide) l_T_22 rfl (t := .int) (by decide +kernel) rfl rfl (Nat.le_of_ble_eq_true rfl) d_T_init_21 (fun H locs hW => ?_)
  have hW : gw D rd_cl a 1 _ s.heap H _ := hW
  refine g_ret C9 hlk hret hW (fun k hk => ?_) (by decide) (by decide) d_T_init_24
  match k, hk with
  | 0, _ => exact Or.inl rfl
  | k + 1, h => exact absurd h (by omega)
set_option maxRecDepth 100000 in
set_option maxHeartbeats 4000000 in
theorem c_R_init (l : Launch) (D : va_G) (Ka : Nat → ClassId) : gN l y_R_init b_R_init 1 (1, 12, 1, 3) rd_T D rd_cl (rd_ty Ka) g_ao (.inr (4, [.null, .int 0])) 2 (ro_C Ka) := by
  refine g_body (by decide) rfl (by decide) ?_
  intro a p e s m below meth c C9 hlk hret hin hsz hW ls hl
  have hx := C9.1.1
  have hb := C9.1.2.1
  have hown := C9.1.2.2.2.1
  have hts := C9.1.2.2.2.2
  refine lv_aload_n hx hb d_R_init_0 rfl (lv_at hl 0 rfl) ?_
  refine g_obj (rest := []) C9 l_R_3 oi_i oi_c hl.1 ⟨Nat.le_of_ble_eq_true rfl, Nat.le_of_ble_eq_true rfl⟩ d_R_init_1 ?_
  refine lv_aload_n hx hb d_R_init_4 rfl (lv_at hl 0 rfl) ?_
  refine lv_iconst (v := 3) hx hb d_R_init_5 (by decide) ?_
  refine g_newa (atype := .int) (N := 3) (a0 := (3, .inl (fun _ => 0))) C9 hW (by show s.heap.size + 0 = a + 1; omega) (fun h => absurd h (by decide)) ar_int (t0 := 0) rfl (by intro z h; cases h) (fun _ => rfl) (by decide) (by decide) (by decide) (Nat.le_of_ble_eq_true rfl) (Nat.le_of_ble_eq_true rfl) d_R_init_6 (fun H hW => ?_)
  have hW : gw D rd_cl a 2 _ s.heap H _ := hW
  refine g_putF hin C9 hW (k := 0) (by decide) (fs := [.null, .int 0]) rfl rfl fi_R ft_R ft_R_ok fn_R 0 (by decide) l_R_9 rfl rfl (t := (.array .int)) (by decide +kernel) rfl rfl (Nat.le_of_ble_eq_true rfl) d_R_init_8 (fun H locs hW => ?_)
  have hW : gw D rd_cl a 2 _ s.heap H _ := hW
  refine lv_aload_n hx hb d_R_init_11 rfl (lv_at hl 0 rfl) ?_
  refine lv_iconst (v := 0) hx hb d_R_init_12 (by decide) ?_
  refine g_put C9 hW (k := 0) (by decide) (fs := [.ref (a + 1), .int 0]) rfl rfl fi_R ft_R ft_R_ok fn_R 1 (by decide) l_R_15 rfl (t := .int) (by decide +kernel) rfl rfl (Nat.le_of_ble_eq_true rfl) d_R_init_13 (fun H locs hW => ?_)
  have hW : gw D rd_cl a 2 _ s.heap H _ := hW
  refine g_ret C9 hlk hret hW (fun k hk => ?_) (by decide) (by decide) d_R_init_16
  match k, hk with
  | 0, _ => exact Or.inl rfl
  | 1, _ => exact Or.inl rfl
  | k + 2, h => exact absurd h (by omega)
