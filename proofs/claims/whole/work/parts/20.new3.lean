set_option maxRecDepth 100000 in
set_option maxHeartbeats 4000000 in
theorem c_K_init (l : Launch) (D : va_G) (Ka : Nat → ClassId) : gN l y_K_init b_K_init 2 (3, 53, 116, 524) rd_T D rd_cl (rd_ty Ka) g_ao (.inr (0, [.null, .null, .null, .null, .int 0])) 117 (dk_C Ka) := by
  refine g_body (by decide) rfl (by decide) ?_
  intro a p e s m below meth c C9 hlk hret hin hsz hW ls hl
  have hx := C9.1.1
  have hb := C9.1.2.1
  have hown := C9.1.2.2.2.1
  have hts := C9.1.2.2.2.2
  refine lv_aload_n hx hb d_K_init_0 rfl (lv_at hl 0 rfl) ?_
  refine g_obj (rest := []) C9 l_K_1 oi_i oi_c hl.1 ⟨Nat.le_of_ble_eq_true rfl, Nat.le_of_ble_eq_true rfl⟩ d_K_init_1 ?_
  refine lv_aload_n hx hb d_K_init_4 rfl (lv_at hl 0 rfl) ?_
  refine lv_iconst (v := 4) hx hb d_K_init_5 (by decide) ?_
  refine g_newa (atype := .double) (N := 4) (a0 := (4, .inr (.inr (.inr (.inl (fun _ => 0)))))) C9 hW (by show s.heap.size + 0 = a + 1; omega) (fun h => absurd h (by decide)) ar_double (t0 := 2) rfl (by intro z h; cases h) (fun _ => rfl) (by decide) (by decide) (by decide) (Nat.le_of_ble_eq_true rfl) (Nat.le_of_ble_eq_true rfl) d_K_init_6 (fun H hW => ?_)
  have hW : gw D rd_cl a 2 _ s.heap H _ := hW
  refine g_putF hin C9 hW (k := 0) (by decide) (fs := [.null, .null, .null, .null, .int 0]) rfl rfl fi_K ft_K ft_K_ok fn_K 0 (by decide) l_K_9 rfl rfl (t := (.array .double)) (by decide +kernel) rfl rfl (Nat.le_of_ble_eq_true rfl) d_K_init_8 (fun H locs hW => ?_)
  have hW : gw D rd_cl a 2 _ s.heap H _ := hW
  refine lv_iconst (v := 0) hx hb d_K_init_11 (by decide) ?_
  refine lv_istore_n (lv' := [(1, .int 0), (0, .ref a)]) hx hb d_K_init_12 rfl hl (by decide) rfl (fun ls hl => ?_)
  refine lv_iload_n hx hb d_K_init_13 rfl (lv_at hl 0 rfl) ?_
  refine lv_iconst (v := 4) hx hb d_K_init_14 (by decide) ?_
  refine lv_icmp_ge (tgt := 31) hx hb d_K_init_15 (by decide) (fun c9 => absurd c9 (by decide)) (fun _ => ?_)
  refine lv_aload_n hx hb d_K_init_18 rfl (lv_at hl 1 rfl) ?_
  refine g_get C9 hW (k := 0) (by decide) (fs := [.ref (a + 1), .null, .null, .null, .int 0]) rfl rfl fi_K 0 (by decide) rfl l_K_9 d_K_init_19 ?_
  refine lv_iload_n hx hb d_K_init_22 rfl (lv_at hl 0 rfl) ?_
  refine lv_dconst1 hx hb d_K_init_23 ?_
  refine g_dast C9 hW (k := 1) (by decide) (f := (fun _ => 0)) rfl (t0 := 2) rfl (i := 0) (by decide) (show rd_in 0 4 by decide) d_K_init_24 (fun H locs hW => ?_)
  have hW : gw D rd_cl a 2 _ s.heap H _ := hW
  refine lv_iinc (v := 1) (lv' := [(1, .int 1), (0, .ref a)]) hx hb d_K_init_25 hl (k := 0) rfl (by decide) (by decide) rfl (fun ls hl => ?_)
  refine lv_goto (tgt := 13) hx hb d_K_init_28 (by decide) ?_
  refine lv_iload_n hx hb d_K_init_13 rfl (lv_at hl 0 rfl) ?_
  refine lv_iconst (v := 4) hx hb d_K_init_14 (by decide) ?_
  refine lv_icmp_ge (tgt := 31) hx hb d_K_init_15 (by decide) (fun c9 => absurd c9 (by decide)) (fun _ => ?_)
  refine lv_aload_n hx hb d_K_init_18 rfl (lv_at hl 1 rfl) ?_
  refine g_get C9 hW (k := 0) (by decide) (fs := [.ref (a + 1), .null, .null, .null, .int 0]) rfl rfl fi_K 0 (by decide) rfl l_K_9 d_K_init_19 ?_
  refine lv_iload_n hx hb d_K_init_22 rfl (lv_at hl 0 rfl) ?_
  refine lv_dconst1 hx hb d_K_init_23 ?_
  refine g_dast C9 hW (k := 1) (by decide) (f := (vf_upd (fun _ => 0) 0 FP.dconst1)) rfl (t0 := 2) rfl (i := 1) (by decide) (show rd_in 1 4 by decide) d_K_init_24 (fun H locs hW => ?_)
  have hW : gw D rd_cl a 2 _ s.heap H _ := hW
  refine lv_iinc (v := 2) (lv' := [(1, .int 2), (0, .ref a)]) hx hb d_K_init_25 hl (k := 0) rfl (by decide) (by decide) rfl (fun ls hl => ?_)
  refine lv_goto (tgt := 13) hx hb d_K_init_28 (by decide) ?_
  refine lv_iload_n hx hb d_K_init_13 rfl (lv_at hl 0 rfl) ?_
  refine lv_iconst (v := 4) hx hb d_K_init_14 (by decide) ?_
  refine lv_icmp_ge (tgt := 31) hx hb d_K_init_15 (by decide) (fun c9 => absurd c9 (by decide)) (fun _ => ?_)
  refine lv_aload_n hx hb d_K_init_18 rfl (lv_at hl 1 rfl) ?_
  refine g_get C9 hW (k := 0) (by decide) (fs := [.ref (a + 1), .null, .null, .null, .int 0]) rfl rfl fi_K 0 (by decide) rfl l_K_9 d_K_init_19 ?_
  refine lv_iload_n hx hb d_K_init_22 rfl (lv_at hl 0 rfl) ?_
  refine lv_dconst1 hx hb d_K_init_23 ?_
  refine g_dast C9 hW (k := 1) (by decide) (f := (vf_upd (vf_upd (fun _ => 0) 0 FP.dconst1) 1 FP.dconst1)) rfl (t0 := 2) rfl (i := 2) (by decide) (show rd_in 2 4 by decide) d_K_init_24 (fun H locs hW => ?_)
  have hW : gw D rd_cl a 2 _ s.heap H _ := hW
  refine lv_iinc (v := 3) (lv' := [(1, .int 3), (0, .ref a)]) hx hb d_K_init_25 hl (k := 0) rfl (by decide) (by decide) rfl (fun ls hl => ?_)
  refine lv_goto (tgt := 13) hx hb d_K_init_28 (by decide) ?_
  refine lv_iload_n hx hb d_K_init_13 rfl (lv_at hl 0 rfl) ?_
  refine lv_iconst (v := 4) hx hb d_K_init_14 (by decide) ?_
  refine lv_icmp_ge (tgt := 31) hx hb d_K_init_15 (by decide) (fun c9 => absurd c9 (by decide)) (fun _ => ?_)
  refine lv_aload_n hx hb d_K_init_18 rfl (lv_at hl 1 rfl) ?_
  refine g_get C9 hW (k := 0) (by decide) (fs := [.ref (a + 1), .null, .null, .null, .int 0]) rfl rfl fi_K 0 (by decide) rfl l_K_9 d_K_init_19 ?_
  refine lv_iload_n hx hb d_K_init_22 rfl (lv_at hl 0 rfl) ?_
  refine lv_dconst1 hx hb d_K_init_23 ?_
  refine g_dast C9 hW (k := 1) (by decide) (f := (vf_upd (vf_upd (vf_upd (fun _ => 0) 0 FP.dconst1) 1 FP.dconst1) 2 FP.dconst1)) rfl (t0 := 2) rfl (i := 3) (by decide) (show rd_in 3 4 by decide) d_K_init_24 (fun H locs hW => ?_)
  have hW : gw D rd_cl a 2 _ s.heap H _ := hW
  refine lv_iinc (v := 4) (lv' := [(1, .int 4), (0, .ref a)]) hx hb d_K_init_25 hl (k := 0) rfl (by decide) (by decide) rfl (fun ls hl => ?_)
  refine lv_goto (tgt := 13) hx hb d_K_init_28 (by decide) ?_
  refine lv_iload_n hx hb d_K_init_13 rfl (lv_at hl 0 rfl) ?_
  refine lv_iconst (v := 4) hx hb d_K_init_14 (by decide) ?_
  refine lv_icmp_ge (tgt := 31) hx hb d_K_init_15 (by decide) (fun _ => ?_) (fun c9 => absurd (by decide) c9)
  refine lv_aload_n hx hb d_K_init_31 rfl (lv_at hl 1 rfl) ?_
  refine lv_iconst (v := 4) hx hb d_K_init_32 (by decide) ?_
  refine g_newq (N := 4) C9 hW (by show s.heap.size + 1 = a + 2; omega) (fun h => absurd h (by decide)) l_K_13 (List.mem_of_getElem? (i := 0) rfl) (t0 := 3) rfl (by decide) (by decide) (by decide) (Nat.le_of_ble_eq_true rfl) (Nat.le_of_ble_eq_true rfl) d_K_init_33 (fun H hW => ?_)
  have hW : gw D rd_cl a 3 _ s.heap H _ := hW
  refine g_putF hin C9 hW (k := 0) (by decide) (fs := [.ref (a + 1), .null, .null, .null, .int 0]) rfl rfl fi_K ft_K ft_K_ok fn_K 1 (by decide) l_K_15 rfl rfl (t := (.array (.object "RegistryDesk$Account"))) (by decide +kernel) rfl rfl (Nat.le_of_ble_eq_true rfl) d_K_init_36 (fun H locs hW => ?_)
  have hW : gw D rd_cl a 3 _ s.heap H _ := hW
  refine lv_iconst (v := 0) hx hb d_K_init_39 (by decide) ?_
  refine lv_istore_n (lv' := [(1, .int 0), (0, .ref a)]) hx hb d_K_init_40 rfl hl (by decide) rfl (fun ls hl => ?_)
  refine lv_iload_n hx hb d_K_init_41 rfl (lv_at hl 0 rfl) ?_
  refine lv_iconst (v := 4) hx hb d_K_init_42 (by decide) ?_
  refine lv_icmp_ge (tgt := 65) hx hb d_K_init_43 (by decide) (fun c9 => absurd c9 (by decide)) (fun _ => ?_)
  refine lv_aload_n hx hb d_K_init_46 rfl (lv_at hl 1 rfl) ?_
  refine g_get C9 hW (k := 0) (by decide) (fs := [.ref (a + 1), .ref (a + 2), .null, .null, .int 0]) rfl rfl fi_K 1 (by decide) rfl l_K_15 d_K_init_47 ?_
  refine lv_iload_n hx hb d_K_init_50 rfl (lv_at hl 0 rfl) ?_
  refine g_new C9 hW (by show s.heap.size + 2 = a + 3; omega) (fun h => absurd h (by decide)) fi_A ft_A ft_A_ok l_K_13 it_A ii_A (ci := 1) rfl bl_A (Nat.le_of_ble_eq_true rfl) (Nat.le_of_ble_eq_true rfl) d_K_init_51 (fun H hW => ?_)
  have hW : gw D rd_cl a 4 _ s.heap H _ := hW
  refine lv_dup hx hb d_K_init_54 rfl ?_
  refine g_call (n := 3) (rest := [.ref (a + 3), .int 0, .ref (a + 2)]) rd_gd C9 hW (by show s.heap.size + 3 = a + 4; omega) (c_A_init l D Ka) rfl kc_A_init rfl ki_A_init l_K_19 ⟨Nat.le_of_ble_eq_true rfl, Nat.le_of_ble_eq_true rfl⟩ ⟨Nat.le_of_ble_eq_true rfl, Nat.le_of_ble_eq_true rfl⟩ hl.1 (Nat.le_of_ble_eq_true rfl) d_K_init_55 (fun H locs hW => ?_)
  have hW : gw D rd_cl a 6 _ s.heap H _ := hW
  refine g_aast C9 hW (k := 2) (by decide) (f := (fun _ => none)) rfl (t0 := 3) (r := (R_A, F_A, 4)) rfl (k2 := 3) (by decide) (vs := [.ref (a + 4), .ref (a + 5), .double FP.dconst0, .int 0]) rfl rfl (i := 0) (by decide) (show rd_in 0 4 by decide) d_K_init_58 (fun H locs hW => ?_)
  have hW : gw D rd_cl a 6 _ s.heap H _ := hW
  refine lv_iinc (v := 1) (lv' := [(1, .int 1), (0, .ref a)]) hx hb d_K_init_59 hl (k := 0) rfl (by decide) (by decide) rfl (fun ls hl => ?_)
  refine lv_goto (tgt := 41) hx hb d_K_init_62 (by decide) ?_
  refine lv_iload_n hx hb d_K_init_41 rfl (lv_at hl 0 rfl) ?_
  refine lv_iconst (v := 4) hx hb d_K_init_42 (by decide) ?_
  refine lv_icmp_ge (tgt := 65) hx hb d_K_init_43 (by decide) (fun c9 => absurd c9 (by decide)) (fun _ => ?_)
  refine lv_aload_n hx hb d_K_init_46 rfl (lv_at hl 1 rfl) ?_
  refine g_get C9 hW (k := 0) (by decide) (fs := [.ref (a + 1), .ref (a + 2), .null, .null, .int 0]) rfl rfl fi_K 1 (by decide) rfl l_K_15 d_K_init_47 ?_
  refine lv_iload_n hx hb d_K_init_50 rfl (lv_at hl 0 rfl) ?_
  refine g_new C9 hW (by show s.heap.size + 5 = a + 6; omega) (fun h => absurd h (by decide)) fi_A ft_A ft_A_ok l_K_13 it_A ii_A (ci := 1) rfl bl_A (Nat.le_of_ble_eq_true rfl) (Nat.le_of_ble_eq_true rfl) d_K_init_51 (fun H hW => ?_)
  have hW : gw D rd_cl a 7 _ s.heap H _ := hW
  refine lv_dup hx hb d_K_init_54 rfl ?_
  refine g_call (n := 6) (rest := [.ref (a + 6), .int 1, .ref (a + 2)]) rd_gd C9 hW (by show s.heap.size + 6 = a + 7; omega) (c_A_init l D Ka) rfl kc_A_init rfl ki_A_init l_K_19 ⟨Nat.le_of_ble_eq_true rfl, Nat.le_of_ble_eq_true rfl⟩ ⟨Nat.le_of_ble_eq_true rfl, Nat.le_of_ble_eq_true rfl⟩ hl.1 (Nat.le_of_ble_eq_true rfl) d_K_init_55 (fun H locs hW => ?_)
  have hW : gw D rd_cl a 9 _ s.heap H _ := hW
  refine g_aast C9 hW (k := 2) (by decide) (f := (va_up (fun _ => none) 0 (some (a + 3)))) rfl (t0 := 3) (r := (R_A, F_A, 4)) rfl (k2 := 6) (by decide) (vs := [.ref (a + 7), .ref (a + 8), .double FP.dconst0, .int 0]) rfl rfl (i := 1) (by decide) (show rd_in 1 4 by decide) d_K_init_58 (fun H locs hW => ?_)
  have hW : gw D rd_cl a 9 _ s.heap H _ := hW
  refine lv_iinc (v := 2) (lv' := [(1, .int 2), (0, .ref a)]) hx hb d_K_init_59 hl (k := 0) rfl (by decide) (by decide) rfl (fun ls hl => ?_)
  refine lv_goto (tgt := 41) hx hb d_K_init_62 (by decide) ?_
  refine lv_iload_n hx hb d_K_init_41 rfl (lv_at hl 0 rfl) ?_
  refine lv_iconst (v := 4) hx hb d_K_init_42 (by decide) ?_
  refine lv_icmp_ge (tgt := 65) hx hb d_K_init_43 (by decide) (fun c9 => absurd c9 (by decide)) (fun _ => ?_)
  refine lv_aload_n hx hb d_K_init_46 rfl (lv_at hl 1 rfl) ?_
  refine g_get C9 hW (k := 0) (by decide) (fs := [.ref (a + 1), .ref (a + 2), .null, .null, .int 0]) rfl rfl fi_K 1 (by decide) rfl l_K_15 d_K_init_47 ?_
  refine lv_iload_n hx hb d_K_init_50 rfl (lv_at hl 0 rfl) ?_
  refine g_new C9 hW (by show s.heap.size + 8 = a + 9; omega) (fun h => absurd h (by decide)) fi_A ft_A ft_A_ok l_K_13 it_A ii_A (ci := 1) rfl bl_A (Nat.le_of_ble_eq_true rfl) (Nat.le_of_ble_eq_true rfl) d_K_init_51 (fun H hW => ?_)
  have hW : gw D rd_cl a 10 _ s.heap H _ := hW
  refine lv_dup hx hb d_K_init_54 rfl ?_
  refine g_call (n := 9) (rest := [.ref (a + 9), .int 2, .ref (a + 2)]) rd_gd C9 hW (by show s.heap.size + 9 = a + 10; omega) (c_A_init l D Ka) rfl kc_A_init rfl ki_A_init l_K_19 ⟨Nat.le_of_ble_eq_true rfl, Nat.le_of_ble_eq_true rfl⟩ ⟨Nat.le_of_ble_eq_true rfl, Nat.le_of_ble_eq_true rfl⟩ hl.1 (Nat.le_of_ble_eq_true rfl) d_K_init_55 (fun H locs hW => ?_)
  have hW : gw D rd_cl a 12 _ s.heap H _ := hW
  refine g_aast C9 hW (k := 2) (by decide) (f := (va_up (va_up (fun _ => none) 0 (some (a + 3))) 1 (some (a + 6)))) rfl (t0 := 3) (r := (R_A, F_A, 4)) rfl (k2 := 9) (by decide) (vs := [.ref (a + 10), .ref (a + 11), .double FP.dconst0, .int 0]) rfl rfl (i := 2) (by decide) (show rd_in 2 4 by decide) d_K_init_58 (fun H locs hW => ?_)
  have hW : gw D rd_cl a 12 _ s.heap H _ := hW
  refine lv_iinc (v := 3) (lv' := [(1, .int 3), (0, .ref a)]) hx hb d_K_init_59 hl (k := 0) rfl (by decide) (by decide) rfl (fun ls hl => ?_)
  refine lv_goto (tgt := 41) hx hb d_K_init_62 (by decide) ?_
  refine lv_iload_n hx hb d_K_init_41 rfl (lv_at hl 0 rfl) ?_
  refine lv_iconst (v := 4) hx hb d_K_init_42 (by decide) ?_
  refine lv_icmp_ge (tgt := 65) hx hb d_K_init_43 (by decide) (fun c9 => absurd c9 (by decide)) (fun _ => ?_)
  refine lv_aload_n hx hb d_K_init_46 rfl (lv_at hl 1 rfl) ?_
  refine g_get C9 hW (k := 0) (by decide) (fs := [.ref (a + 1), .ref (a + 2), .null, .null, .int 0]) rfl rfl fi_K 1 (by decide) rfl l_K_15 d_K_init_47 ?_
  refine lv_iload_n hx hb d_K_init_50 rfl (lv_at hl 0 rfl) ?_
  refine g_new C9 hW (by show s.heap.size + 11 = a + 12; omega) (fun h => absurd h (by decide)) fi_A ft_A ft_A_ok l_K_13 it_A ii_A (ci := 1) rfl bl_A (Nat.le_of_ble_eq_true rfl) (Nat.le_of_ble_eq_true rfl) d_K_init_51 (fun H hW => ?_)
  have hW : gw D rd_cl a 13 _ s.heap H _ := hW
  refine lv_dup hx hb d_K_init_54 rfl ?_
  refine g_call (n := 12) (rest := [.ref (a + 12), .int 3, .ref (a + 2)]) rd_gd C9 hW (by show s.heap.size + 12 = a + 13; omega) (c_A_init l D Ka) rfl kc_A_init rfl ki_A_init l_K_19 ⟨Nat.le_of_ble_eq_true rfl, Nat.le_of_ble_eq_true rfl⟩ ⟨Nat.le_of_ble_eq_true rfl, Nat.le_of_ble_eq_true rfl⟩ hl.1 (Nat.le_of_ble_eq_true rfl) d_K_init_55 (fun H locs hW => ?_)
  have hW : gw D rd_cl a 15 _ s.heap H _ := hW
  refine g_aast C9 hW (k := 2) (by decide) (f := (va_up (va_up (va_up (fun _ => none) 0 (some (a + 3))) 1 (some (a + 6))) 2 (some (a + 9)))) rfl (t0 := 3) (r := (R_A, F_A, 4)) rfl (k2 := 12) (by decide) (vs := [.ref (a + 13), .ref (a + 14), .double FP.dconst0, .int 0]) rfl rfl (i := 3) (by decide) (show rd_in 3 4 by decide) d_K_init_58 (fun H locs hW => ?_)
  have hW : gw D rd_cl a 15 _ s.heap H _ := hW
  refine lv_iinc (v := 4) (lv' := [(1, .int 4), (0, .ref a)]) hx hb d_K_init_59 hl (k := 0) rfl (by decide) (by decide) rfl (fun ls hl => ?_)
  refine lv_goto (tgt := 41) hx hb d_K_init_62 (by decide) ?_
  refine lv_iload_n hx hb d_K_init_41 rfl (lv_at hl 0 rfl) ?_
  refine lv_iconst (v := 4) hx hb d_K_init_42 (by decide) ?_
  refine lv_icmp_ge (tgt := 65) hx hb d_K_init_43 (by decide) (fun _ => ?_) (fun c9 => absurd (by decide) c9)
  refine lv_aload_n hx hb d_K_init_65 rfl (lv_at hl 1 rfl) ?_
  refine lv_iconst (v := 2) hx hb d_K_init_66 (by decide) ?_
  refine g_newq (N := 2) C9 hW (by show s.heap.size + 14 = a + 15; omega) (fun h => absurd h (by decide)) l_K_20 (List.mem_of_getElem? (i := 1) rfl) (t0 := 4) rfl (by decide) (by decide) (by decide) (Nat.le_of_ble_eq_true rfl) (Nat.le_of_ble_eq_true rfl) d_K_init_67 (fun H hW => ?_)
  have hW : gw D rd_cl a 16 _ s.heap H _ := hW
  refine g_putF hin C9 hW (k := 0) (by decide) (fs := [.ref (a + 1), .ref (a + 2), .null, .null, .int 0]) rfl rfl fi_K ft_K ft_K_ok fn_K 2 (by decide) l_K_22 rfl rfl (t := (.array (.object "RegistryDesk$Shelf"))) (by decide +kernel) rfl rfl (Nat.le_of_ble_eq_true rfl) d_K_init_70 (fun H locs hW => ?_)
  have hW : gw D rd_cl a 16 _ s.heap H _ := hW
  refine lv_aload_n hx hb d_K_init_73 rfl (lv_at hl 1 rfl) ?_
  refine g_get C9 hW (k := 0) (by decide) (fs := [.ref (a + 1), .ref (a + 2), .ref (a + 15), .null, .int 0]) rfl rfl fi_K 2 (by decide) rfl l_K_22 d_K_init_74 ?_
  refine lv_iconst (v := 0) hx hb d_K_init_77 (by decide) ?_
  refine g_new C9 hW (by show s.heap.size + 15 = a + 16; omega) (fun h => absurd h (by decide)) fi_S ft_S ft_S_ok l_K_20 it_S ii_S (ci := 2) rfl bl_S (Nat.le_of_ble_eq_true rfl) (Nat.le_of_ble_eq_true rfl) d_K_init_78 (fun H hW => ?_)
  have hW : gw D rd_cl a 17 _ s.heap H _ := hW
  refine lv_dup hx hb d_K_init_81 rfl ?_
  refine g_call (n := 16) (rest := [.ref (a + 16), .int 0, .ref (a + 15)]) rd_gd C9 hW (by show s.heap.size + 16 = a + 17; omega) (c_S_init l D Ka) rfl kc_S_init rfl ki_S_init l_K_26 ⟨Nat.le_of_ble_eq_true rfl, Nat.le_of_ble_eq_true rfl⟩ ⟨Nat.le_of_ble_eq_true rfl, Nat.le_of_ble_eq_true rfl⟩ hl.1 (Nat.le_of_ble_eq_true rfl) d_K_init_82 (fun H locs hW => ?_)
  have hW : gw D rd_cl a 26 _ s.heap H _ := hW
  refine g_aast C9 hW (k := 15) (by decide) (f := (fun _ => none)) rfl (t0 := 4) (r := (R_S, F_S, 2)) rfl (k2 := 16) (by decide) (vs := [.ref (a + 17), .int 0]) rfl rfl (i := 0) (by decide) (show rd_in 0 2 by decide) d_K_init_85 (fun H locs hW => ?_)
  have hW : gw D rd_cl a 26 _ s.heap H _ := hW
  refine lv_aload_n hx hb d_K_init_86 rfl (lv_at hl 1 rfl) ?_
  refine g_get C9 hW (k := 0) (by decide) (fs := [.ref (a + 1), .ref (a + 2), .ref (a + 15), .null, .int 0]) rfl rfl fi_K 2 (by decide) rfl l_K_22 d_K_init_87 ?_
  refine lv_iconst (v := 1) hx hb d_K_init_90 (by decide) ?_
  refine g_new C9 hW (by show s.heap.size + 25 = a + 26; omega) (fun h => absurd h (by decide)) fi_S ft_S ft_S_ok l_K_20 it_S ii_S (ci := 2) rfl bl_S (Nat.le_of_ble_eq_true rfl) (Nat.le_of_ble_eq_true rfl) d_K_init_91 (fun H hW => ?_)
  have hW : gw D rd_cl a 27 _ s.heap H _ := hW
  refine lv_dup hx hb d_K_init_94 rfl ?_
  refine g_call (n := 26) (rest := [.ref (a + 26), .int 1, .ref (a + 15)]) rd_gd C9 hW (by show s.heap.size + 26 = a + 27; omega) (c_S_init l D Ka) rfl kc_S_init rfl ki_S_init l_K_26 ⟨Nat.le_of_ble_eq_true rfl, Nat.le_of_ble_eq_true rfl⟩ ⟨Nat.le_of_ble_eq_true rfl, Nat.le_of_ble_eq_true rfl⟩ hl.1 (Nat.le_of_ble_eq_true rfl) d_K_init_95 (fun H locs hW => ?_)
  have hW : gw D rd_cl a 36 _ s.heap H _ := hW
  refine g_aast C9 hW (k := 15) (by decide) (f := (va_up (fun _ => none) 0 (some (a + 16)))) rfl (t0 := 4) (r := (R_S, F_S, 2)) rfl (k2 := 26) (by decide) (vs := [.ref (a + 27), .int 0]) rfl rfl (i := 1) (by decide) (show rd_in 1 2 by decide) d_K_init_98 (fun H locs hW => ?_)
  have hW : gw D rd_cl a 36 _ s.heap H _ := hW
  refine lv_aload_n hx hb d_K_init_99 rfl (lv_at hl 1 rfl) ?_
  refine lv_bipush (v := 10) hx hb d_K_init_100 (by decide) ?_
  refine g_newq (N := 10) C9 hW (by show s.heap.size + 35 = a + 36; omega) (fun h => absurd h (by decide)) l_K_27 (List.mem_of_getElem? (i := 4) rfl) (t0 := 7) rfl (by decide) (by decide) (by decide) (Nat.le_of_ble_eq_true rfl) (Nat.le_of_ble_eq_true rfl) d_K_init_102 (fun H hW => ?_)
  have hW : gw D rd_cl a 37 _ s.heap H _ := hW
  refine g_putF hin C9 hW (k := 0) (by decide) (fs := [.ref (a + 1), .ref (a + 2), .ref (a + 15), .null, .int 0]) rfl rfl fi_K ft_K ft_K_ok fn_K 3 (by decide) l_K_29 rfl rfl (t := (.array (.object "RegistryDesk$Domain"))) (by decide +kernel) rfl rfl (Nat.le_of_ble_eq_true rfl) d_K_init_105 (fun H locs hW => ?_)
  have hW : gw D rd_cl a 37 _ s.heap H _ := hW
  refine lv_iconst (v := 0) hx hb d_K_init_108 (by decide) ?_
  refine lv_istore_n (lv' := [(1, .int 0), (0, .ref a)]) hx hb d_K_init_109 rfl hl (by decide) rfl (fun ls hl => ?_)
  refine lv_iload_n hx hb d_K_init_110 rfl (lv_at hl 0 rfl) ?_
  refine lv_bipush (v := 10) hx hb d_K_init_111 (by decide) ?_
  refine lv_icmp_ge (tgt := 135) hx hb d_K_init_113 (by decide) (fun c9 => absurd c9 (by decide)) (fun _ => ?_)
  refine lv_aload_n hx hb d_K_init_116 rfl (lv_at hl 1 rfl) ?_
  refine g_get C9 hW (k := 0) (by decide) (fs := [.ref (a + 1), .ref (a + 2), .ref (a + 15), .ref (a + 36), .int 0]) rfl rfl fi_K 3 (by decide) rfl l_K_29 d_K_init_117 ?_
  refine lv_iload_n hx hb d_K_init_120 rfl (lv_at hl 0 rfl) ?_
  refine g_new C9 hW (by show s.heap.size + 36 = a + 37; omega) (fun h => absurd h (by decide)) fi_D ft_D ft_D_ok l_K_27 it_D ii_D (ci := 5) rfl bl_D (Nat.le_of_ble_eq_true rfl) (Nat.le_of_ble_eq_true rfl) d_K_init_121 (fun H hW => ?_)
  have hW : gw D rd_cl a 38 _ s.heap H _ := hW
  refine lv_dup hx hb d_K_init_124 rfl ?_
  refine g_call (n := 37) (rest := [.ref (a + 37), .int 0, .ref (a + 36)]) rd_gd C9 hW (by show s.heap.size + 37 = a + 38; omega) (c_D_init l D Ka) rfl kc_D_init rfl ki_D_init l_K_33 ⟨Nat.le_of_ble_eq_true rfl, Nat.le_of_ble_eq_true rfl⟩ ⟨Nat.le_of_ble_eq_true rfl, Nat.le_of_ble_eq_true rfl⟩ hl.1 (Nat.le_of_ble_eq_true rfl) d_K_init_125 (fun H locs hW => ?_)
  have hW : gw D rd_cl a 45 _ s.heap H _ := hW
  refine g_aast C9 hW (k := 36) (by decide) (f := (fun _ => none)) rfl (t0 := 7) (r := (R_D, F_D, 12)) rfl (k2 := 37) (by decide) (vs := [.ref (a + 38), .ref (a + 43), .ref (a + 44), .int 0, .int 0, .int 0, .int 0, .int 0, .int 0, .int 0, .int 0, .int 0]) rfl rfl (i := 0) (by decide) (show rd_in 0 10 by decide) d_K_init_128 (fun H locs hW => ?_)
  have hW : gw D rd_cl a 45 _ s.heap H _ := hW
  refine lv_iinc (v := 1) (lv' := [(1, .int 1), (0, .ref a)]) hx hb d_K_init_129 hl (k := 0) rfl (by decide) (by decide) rfl (fun ls hl => ?_)
  refine lv_goto (tgt := 110) hx hb d_K_init_132 (by decide) ?_
  refine lv_iload_n hx hb d_K_init_110 rfl (lv_at hl 0 rfl) ?_
  refine lv_bipush (v := 10) hx hb d_K_init_111 (by decide) ?_
  refine lv_icmp_ge (tgt := 135) hx hb d_K_init_113 (by decide) (fun c9 => absurd c9 (by decide)) (fun _ => ?_)
  refine lv_aload_n hx hb d_K_init_116 rfl (lv_at hl 1 rfl) ?_
  refine g_get C9 hW (k := 0) (by decide) (fs := [.ref (a + 1), .ref (a + 2), .ref (a + 15), .ref (a + 36), .int 0]) rfl rfl fi_K 3 (by decide) rfl l_K_29 d_K_init_117 ?_
  refine lv_iload_n hx hb d_K_init_120 rfl (lv_at hl 0 rfl) ?_
  refine g_new C9 hW (by show s.heap.size + 44 = a + 45; omega) (fun h => absurd h (by decide)) fi_D ft_D ft_D_ok l_K_27 it_D ii_D (ci := 5) rfl bl_D (Nat.le_of_ble_eq_true rfl) (Nat.le_of_ble_eq_true rfl) d_K_init_121 (fun H hW => ?_)
  have hW : gw D rd_cl a 46 _ s.heap H _ := hW
  refine lv_dup hx hb d_K_init_124 rfl ?_
  refine g_call (n := 45) (rest := [.ref (a + 45), .int 1, .ref (a + 36)]) rd_gd C9 hW (by show s.heap.size + 45 = a + 46; omega) (c_D_init l D Ka) rfl kc_D_init rfl ki_D_init l_K_33 ⟨Nat.le_of_ble_eq_true rfl, Nat.le_of_ble_eq_true rfl⟩ ⟨Nat.le_of_ble_eq_true rfl, Nat.le_of_ble_eq_true rfl⟩ hl.1 (Nat.le_of_ble_eq_true rfl) d_K_init_125 (fun H locs hW => ?_)
  have hW : gw D rd_cl a 53 _ s.heap H _ := hW
  refine g_aast C9 hW (k := 36) (by decide) (f := (va_up (fun _ => none) 0 (some (a + 37)))) rfl (t0 := 7) (r := (R_D, F_D, 12)) rfl (k2 := 45) (by decide) (vs := [.ref (a + 46), .ref (a + 51), .ref (a + 52), .int 0, .int 0, .int 0, .int 0, .int 0, .int 0, .int 0, .int 0, .int 0]) rfl rfl (i := 1) (by decide) (show rd_in 1 10 by decide) d_K_init_128 (fun H locs hW => ?_)
  have hW : gw D rd_cl a 53 _ s.heap H _ := hW
  refine lv_iinc (v := 2) (lv' := [(1, .int 2), (0, .ref a)]) hx hb d_K_init_129 hl (k := 0) rfl (by decide) (by decide) rfl (fun ls hl => ?_)
  refine lv_goto (tgt := 110) hx hb d_K_init_132 (by decide) ?_
  refine lv_iload_n hx hb d_K_init_110 rfl (lv_at hl 0 rfl) ?_
  refine lv_bipush (v := 10) hx hb d_K_init_111 (by decide) ?_
  refine lv_icmp_ge (tgt := 135) hx hb d_K_init_113 (by decide) (fun c9 => absurd c9 (by decide)) (fun _ => ?_)
  refine lv_aload_n hx hb d_K_init_116 rfl (lv_at hl 1 rfl) ?_
  refine g_get C9 hW (k := 0) (by decide) (fs := [.ref (a + 1), .ref (a + 2), .ref (a + 15), .ref (a + 36), .int 0]) rfl rfl fi_K 3 (by decide) rfl l_K_29 d_K_init_117 ?_
  refine lv_iload_n hx hb d_K_init_120 rfl (lv_at hl 0 rfl) ?_
  refine g_new C9 hW (by show s.heap.size + 52 = a + 53; omega) (fun h => absurd h (by decide)) fi_D ft_D ft_D_ok l_K_27 it_D ii_D (ci := 5) rfl bl_D (Nat.le_of_ble_eq_true rfl) (Nat.le_of_ble_eq_true rfl) d_K_init_121 (fun H hW => ?_)
  have hW : gw D rd_cl a 54 _ s.heap H _ := hW
  refine lv_dup hx hb d_K_init_124 rfl ?_
  refine g_call (n := 53) (rest := [.ref (a + 53), .int 2, .ref (a + 36)]) rd_gd C9 hW (by show s.heap.size + 53 = a + 54; omega) (c_D_init l D Ka) rfl kc_D_init rfl ki_D_init l_K_33 ⟨Nat.le_of_ble_eq_true rfl, Nat.le_of_ble_eq_true rfl⟩ ⟨Nat.le_of_ble_eq_true rfl, Nat.le_of_ble_eq_true rfl⟩ hl.1 (Nat.le_of_ble_eq_true rfl) d_K_init_125 (fun H locs hW => ?_)
  have hW : gw D rd_cl a 61 _ s.heap H _ := hW
  refine g_aast C9 hW (k := 36) (by decide) (f := (va_up (va_up (fun _ => none) 0 (some (a + 37))) 1 (some (a + 45)))) rfl (t0 := 7) (r := (R_D, F_D, 12)) rfl (k2 := 53) (by decide) (vs := [.ref (a + 54), .ref (a + 59), .ref (a + 60), .int 0, .int 0, .int 0, .int 0, .int 0, .int 0, .int 0, .int 0, .int 0]) rfl rfl (i := 2) (by decide) (show rd_in 2 10 by decide) d_K_init_128 (fun H locs hW => ?_)
  have hW : gw D rd_cl a 61 _ s.heap H _ := hW
  refine lv_iinc (v := 3) (lv' := [(1, .int 3), (0, .ref a)]) hx hb d_K_init_129 hl (k := 0) rfl (by decide) (by decide) rfl (fun ls hl => ?_)
  refine lv_goto (tgt := 110) hx hb d_K_init_132 (by decide) ?_
  refine lv_iload_n hx hb d_K_init_110 rfl (lv_at hl 0 rfl) ?_
  refine lv_bipush (v := 10) hx hb d_K_init_111 (by decide) ?_
  refine lv_icmp_ge (tgt := 135) hx hb d_K_init_113 (by decide) (fun c9 => absurd c9 (by decide)) (fun _ => ?_)
  refine lv_aload_n hx hb d_K_init_116 rfl (lv_at hl 1 rfl) ?_
  refine g_get C9 hW (k := 0) (by decide) (fs := [.ref (a + 1), .ref (a + 2), .ref (a + 15), .ref (a + 36), .int 0]) rfl rfl fi_K 3 (by decide) rfl l_K_29 d_K_init_117 ?_
  refine lv_iload_n hx hb d_K_init_120 rfl (lv_at hl 0 rfl) ?_
  refine g_new C9 hW (by show s.heap.size + 60 = a + 61; omega) (fun h => absurd h (by decide)) fi_D ft_D ft_D_ok l_K_27 it_D ii_D (ci := 5) rfl bl_D (Nat.le_of_ble_eq_true rfl) (Nat.le_of_ble_eq_true rfl) d_K_init_121 (fun H hW => ?_)
  have hW : gw D rd_cl a 62 _ s.heap H _ := hW
  refine lv_dup hx hb d_K_init_124 rfl ?_
  refine g_call (n := 61) (rest := [.ref (a + 61), .int 3, .ref (a + 36)]) rd_gd C9 hW (by show s.heap.size + 61 = a + 62; omega) (c_D_init l D Ka) rfl kc_D_init rfl ki_D_init l_K_33 ⟨Nat.le_of_ble_eq_true rfl, Nat.le_of_ble_eq_true rfl⟩ ⟨Nat.le_of_ble_eq_true rfl, Nat.le_of_ble_eq_true rfl⟩ hl.1 (Nat.le_of_ble_eq_true rfl) d_K_init_125 (fun H locs hW => ?_)
  have hW : gw D rd_cl a 69 _ s.heap H _ := hW
  refine g_aast C9 hW (k := 36) (by decide) (f := (va_up (va_up (va_up (fun _ => none) 0 (some (a + 37))) 1 (some (a + 45))) 2 (some (a + 53)))) rfl (t0 := 7) (r := (R_D, F_D, 12)) rfl (k2 := 61) (by decide) (vs := [.ref (a + 62), .ref (a + 67), .ref (a + 68), .int 0, .int 0, .int 0, .int 0, .int 0, .int 0, .int 0, .int 0, .int 0]) rfl rfl (i := 3) (by decide) (show rd_in 3 10 by decide) d_K_init_128 (fun H locs hW => ?_)
  have hW : gw D rd_cl a 69 _ s.heap H _ := hW
  refine lv_iinc (v := 4) (lv' := [(1, .int 4), (0, .ref a)]) hx hb d_K_init_129 hl (k := 0) rfl (by decide) (by decide) rfl (fun ls hl => ?_)
  refine lv_goto (tgt := 110) hx hb d_K_init_132 (by decide) ?_
  refine lv_iload_n hx hb d_K_init_110 rfl (lv_at hl 0 rfl) ?_
  refine lv_bipush (v := 10) hx hb d_K_init_111 (by decide) ?_
  refine lv_icmp_ge (tgt := 135) hx hb d_K_init_113 (by decide) (fun c9 => absurd c9 (by decide)) (fun _ => ?_)
  refine lv_aload_n hx hb d_K_init_116 rfl (lv_at hl 1 rfl) ?_
  refine g_get C9 hW (k := 0) (by decide) (fs := [.ref (a + 1), .ref (a + 2), .ref (a + 15), .ref (a + 36), .int 0]) rfl rfl fi_K 3 (by decide) rfl l_K_29 d_K_init_117 ?_
  refine lv_iload_n hx hb d_K_init_120 rfl (lv_at hl 0 rfl) ?_
  refine g_new C9 hW (by show s.heap.size + 68 = a + 69; omega) (fun h => absurd h (by decide)) fi_D ft_D ft_D_ok l_K_27 it_D ii_D (ci := 5) rfl bl_D (Nat.le_of_ble_eq_true rfl) (Nat.le_of_ble_eq_true rfl) d_K_init_121 (fun H hW => ?_)
  have hW : gw D rd_cl a 70 _ s.heap H _ := hW
  refine lv_dup hx hb d_K_init_124 rfl ?_
  refine g_call (n := 69) (rest := [.ref (a + 69), .int 4, .ref (a + 36)]) rd_gd C9 hW (by show s.heap.size + 69 = a + 70; omega) (c_D_init l D Ka) rfl kc_D_init rfl ki_D_init l_K_33 ⟨Nat.le_of_ble_eq_true rfl, Nat.le_of_ble_eq_true rfl⟩ ⟨Nat.le_of_ble_eq_true rfl, Nat.le_of_ble_eq_true rfl⟩ hl.1 (Nat.le_of_ble_eq_true rfl) d_K_init_125 (fun H locs hW => ?_)
  have hW : gw D rd_cl a 77 _ s.heap H _ := hW
  refine g_aast C9 hW (k := 36) (by decide) (f := (va_up (va_up (va_up (va_up (fun _ => none) 0 (some (a + 37))) 1 (some (a + 45))) 2 (some (a + 53))) 3 (some (a + 61)))) rfl (t0 := 7) (r := (R_D, F_D, 12)) rfl (k2 := 69) (by decide) (vs := [.ref (a + 70), .ref (a + 75), .ref (a + 76), .int 0, .int 0, .int 0, .int 0, .int 0, .int 0, .int 0, .int 0, .int 0]) rfl rfl (i := 4) (by decide) (show rd_in 4 10 by decide) d_K_init_128 (fun H locs hW => ?_)
  have hW : gw D rd_cl a 77 _ s.heap H _ := hW
  refine lv_iinc (v := 5) (lv' := [(1, .int 5), (0, .ref a)]) hx hb d_K_init_129 hl (k := 0) rfl (by decide) (by decide) rfl (fun ls hl => ?_)
  refine lv_goto (tgt := 110) hx hb d_K_init_132 (by decide) ?_
  refine lv_iload_n hx hb d_K_init_110 rfl (lv_at hl 0 rfl) ?_
  refine lv_bipush (v := 10) hx hb d_K_init_111 (by decide) ?_
  refine lv_icmp_ge (tgt := 135) hx hb d_K_init_113 (by decide) (fun c9 => absurd c9 (by decide)) (fun _ => ?_)
  refine lv_aload_n hx hb d_K_init_116 rfl (lv_at hl 1 rfl) ?_
  refine g_get C9 hW (k := 0) (by decide) (fs := [.ref (a + 1), .ref (a + 2), .ref (a + 15), .ref (a + 36), .int 0]) rfl rfl fi_K 3 (by decide) rfl l_K_29 d_K_init_117 ?_
  refine lv_iload_n hx hb d_K_init_120 rfl (lv_at hl 0 rfl) ?_
  refine g_new C9 hW (by show s.heap.size + 76 = a + 77; omega) (fun h => absurd h (by decide)) fi_D ft_D ft_D_ok l_K_27 it_D ii_D (ci := 5) rfl bl_D (Nat.le_of_ble_eq_true rfl) (Nat.le_of_ble_eq_true rfl) d_K_init_121 (fun H hW => ?_)
  have hW : gw D rd_cl a 78 _ s.heap H _ := hW
  refine lv_dup hx hb d_K_init_124 rfl ?_
  refine g_call (n := 77) (rest := [.ref (a + 77), .int 5, .ref (a + 36)]) rd_gd C9 hW (by show s.heap.size + 77 = a + 78; omega) (c_D_init l D Ka) rfl kc_D_init rfl ki_D_init l_K_33 ⟨Nat.le_of_ble_eq_true rfl, Nat.le_of_ble_eq_true rfl⟩ ⟨Nat.le_of_ble_eq_true rfl, Nat.le_of_ble_eq_true rfl⟩ hl.1 (Nat.le_of_ble_eq_true rfl) d_K_init_125 (fun H locs hW => ?_)
  have hW : gw D rd_cl a 85 _ s.heap H _ := hW
  refine g_aast C9 hW (k := 36) (by decide) (f := (va_up (va_up (va_up (va_up (va_up (fun _ => none) 0 (some (a + 37))) 1 (some (a + 45))) 2 (some (a + 53))) 3 (some (a + 61))) 4 (some (a + 69)))) rfl (t0 := 7) (r := (R_D, F_D, 12)) rfl (k2 := 77) (by decide) (vs := [.ref (a + 78), .ref (a + 83), .ref (a + 84), .int 0, .int 0, .int 0, .int 0, .int 0, .int 0, .int 0, .int 0, .int 0]) rfl rfl (i := 5) (by decide) (show rd_in 5 10 by decide) d_K_init_128 (fun H locs hW => ?_)
  have hW : gw D rd_cl a 85 _ s.heap H _ := hW
  refine lv_iinc (v := 6) (lv' := [(1, .int 6), (0, .ref a)]) hx hb d_K_init_129 hl (k := 0) rfl (by decide) (by decide) rfl (fun ls hl => ?_)
  refine lv_goto (tgt := 110) hx hb d_K_init_132 (by decide) ?_
  refine lv_iload_n hx hb d_K_init_110 rfl (lv_at hl 0 rfl) ?_
  refine lv_bipush (v := 10) hx hb d_K_init_111 (by decide) ?_
  refine lv_icmp_ge (tgt := 135) hx hb d_K_init_113 (by decide) (fun c9 => absurd c9 (by decide)) (fun _ => ?_)
  refine lv_aload_n hx hb d_K_init_116 rfl (lv_at hl 1 rfl) ?_
  refine g_get C9 hW (k := 0) (by decide) (fs := [.ref (a + 1), .ref (a + 2), .ref (a + 15), .ref (a + 36), .int 0]) rfl rfl fi_K 3 (by decide) rfl l_K_29 d_K_init_117 ?_
  refine lv_iload_n hx hb d_K_init_120 rfl (lv_at hl 0 rfl) ?_
  refine g_new C9 hW (by show s.heap.size + 84 = a + 85; omega) (fun h => absurd h (by decide)) fi_D ft_D ft_D_ok l_K_27 it_D ii_D (ci := 5) rfl bl_D (Nat.le_of_ble_eq_true rfl) (Nat.le_of_ble_eq_true rfl) d_K_init_121 (fun H hW => ?_)
  have hW : gw D rd_cl a 86 _ s.heap H _ := hW
  refine lv_dup hx hb d_K_init_124 rfl ?_
  refine g_call (n := 85) (rest := [.ref (a + 85), .int 6, .ref (a + 36)]) rd_gd C9 hW (by show s.heap.size + 85 = a + 86; omega) (c_D_init l D Ka) rfl kc_D_init rfl ki_D_init l_K_33 ⟨Nat.le_of_ble_eq_true rfl, Nat.le_of_ble_eq_true rfl⟩ ⟨Nat.le_of_ble_eq_true rfl, Nat.le_of_ble_eq_true rfl⟩ hl.1 (Nat.le_of_ble_eq_true rfl) d_K_init_125 (fun H locs hW => ?_)
  have hW : gw D rd_cl a 93 _ s.heap H _ := hW
  refine g_aast C9 hW (k := 36) (by decide) (f := (va_up (va_up (va_up (va_up (va_up (va_up (fun _ => none) 0 (some (a + 37))) 1 (some (a + 45))) 2 (some (a + 53))) 3 (some (a + 61))) 4 (some (a + 69))) 5 (some (a + 77)))) rfl (t0 := 7) (r := (R_D, F_D, 12)) rfl (k2 := 85) (by decide) (vs := [.ref (a + 86), .ref (a + 91), .ref (a + 92), .int 0, .int 0, .int 0, .int 0, .int 0, .int 0, .int 0, .int 0, .int 0]) rfl rfl (i := 6) (by decide) (show rd_in 6 10 by decide) d_K_init_128 (fun H locs hW => ?_)
  have hW : gw D rd_cl a 93 _ s.heap H _ := hW
  refine lv_iinc (v := 7) (lv' := [(1, .int 7), (0, .ref a)]) hx hb d_K_init_129 hl (k := 0) rfl (by decide) (by decide) rfl (fun ls hl => ?_)
  refine lv_goto (tgt := 110) hx hb d_K_init_132 (by decide) ?_
  refine lv_iload_n hx hb d_K_init_110 rfl (lv_at hl 0 rfl) ?_
  refine lv_bipush (v := 10) hx hb d_K_init_111 (by decide) ?_
  refine lv_icmp_ge (tgt := 135) hx hb d_K_init_113 (by decide) (fun c9 => absurd c9 (by decide)) (fun _ => ?_)
  refine lv_aload_n hx hb d_K_init_116 rfl (lv_at hl 1 rfl) ?_
  refine g_get C9 hW (k := 0) (by decide) (fs := [.ref (a + 1), .ref (a + 2), .ref (a + 15), .ref (a + 36), .int 0]) rfl rfl fi_K 3 (by decide) rfl l_K_29 d_K_init_117 ?_
  refine lv_iload_n hx hb d_K_init_120 rfl (lv_at hl 0 rfl) ?_
  refine g_new C9 hW (by show s.heap.size + 92 = a + 93; omega) (fun h => absurd h (by decide)) fi_D ft_D ft_D_ok l_K_27 it_D ii_D (ci := 5) rfl bl_D (Nat.le_of_ble_eq_true rfl) (Nat.le_of_ble_eq_true rfl) d_K_init_121 (fun H hW => ?_)
  have hW : gw D rd_cl a 94 _ s.heap H _ := hW
  refine lv_dup hx hb d_K_init_124 rfl ?_
  refine g_call (n := 93) (rest := [.ref (a + 93), .int 7, .ref (a + 36)]) rd_gd C9 hW (by show s.heap.size + 93 = a + 94; omega) (c_D_init l D Ka) rfl kc_D_init rfl ki_D_init l_K_33 ⟨Nat.le_of_ble_eq_true rfl, Nat.le_of_ble_eq_true rfl⟩ ⟨Nat.le_of_ble_eq_true rfl, Nat.le_of_ble_eq_true rfl⟩ hl.1 (Nat.le_of_ble_eq_true rfl) d_K_init_125 (fun H locs hW => ?_)
  have hW : gw D rd_cl a 101 _ s.heap H _ := hW
  refine g_aast C9 hW (k := 36) (by decide) (f := (va_up (va_up (va_up (va_up (va_up (va_up (va_up (fun _ => none) 0 (some (a + 37))) 1 (some (a + 45))) 2 (some (a + 53))) 3 (some (a + 61))) 4 (some (a + 69))) 5 (some (a + 77))) 6 (some (a + 85)))) rfl (t0 := 7) (r := (R_D, F_D, 12)) rfl (k2 := 93) (by decide) (vs := [.ref (a + 94), .ref (a + 99), .ref (a + 100), .int 0, .int 0, .int 0, .int 0, .int 0, .int 0, .int 0, .int 0, .int 0]) rfl rfl (i := 7) (by decide) (show rd_in 7 10 by decide) d_K_init_128 (fun H locs hW => ?_)
  have hW : gw D rd_cl a 101 _ s.heap H _ := hW
  refine lv_iinc (v := 8) (lv' := [(1, .int 8), (0, .ref a)]) hx hb d_K_init_129 hl (k := 0) rfl (by decide) (by decide) rfl (fun ls hl => ?_)
  refine lv_goto (tgt := 110) hx hb d_K_init_132 (by decide) ?_
  refine lv_iload_n hx hb d_K_init_110 rfl (lv_at hl 0 rfl) ?_
  refine lv_bipush (v := 10) hx hb d_K_init_111 (by decide) ?_
  refine lv_icmp_ge (tgt := 135) hx hb d_K_init_113 (by decide) (fun c9 => absurd c9 (by decide)) (fun _ => ?_)
  refine lv_aload_n hx hb d_K_init_116 rfl (lv_at hl 1 rfl) ?_
  refine g_get C9 hW (k := 0) (by decide) (fs := [.ref (a + 1), .ref (a + 2), .ref (a + 15), .ref (a + 36), .int 0]) rfl rfl fi_K 3 (by decide) rfl l_K_29 d_K_init_117 ?_
  refine lv_iload_n hx hb d_K_init_120 rfl (lv_at hl 0 rfl) ?_
  refine g_new C9 hW (by show s.heap.size + 100 = a + 101; omega) (fun h => absurd h (by decide)) fi_D ft_D ft_D_ok l_K_27 it_D ii_D (ci := 5) rfl bl_D (Nat.le_of_ble_eq_true rfl) (Nat.le_of_ble_eq_true rfl) d_K_init_121 (fun H hW => ?_)
  have hW : gw D rd_cl a 102 _ s.heap H _ := hW
  refine lv_dup hx hb d_K_init_124 rfl ?_
  refine g_call (n := 101) (rest := [.ref (a + 101), .int 8, .ref (a + 36)]) rd_gd C9 hW (by show s.heap.size + 101 = a + 102; omega) (c_D_init l D Ka) rfl kc_D_init rfl ki_D_init l_K_33 ⟨Nat.le_of_ble_eq_true rfl, Nat.le_of_ble_eq_true rfl⟩ ⟨Nat.le_of_ble_eq_true rfl, Nat.le_of_ble_eq_true rfl⟩ hl.1 (Nat.le_of_ble_eq_true rfl) d_K_init_125 (fun H locs hW => ?_)
  have hW : gw D rd_cl a 109 _ s.heap H _ := hW
  refine g_aast C9 hW (k := 36) (by decide) (f := (va_up (va_up (va_up (va_up (va_up (va_up (va_up (va_up (fun _ => none) 0 (some (a + 37))) 1 (some (a + 45))) 2 (some (a + 53))) 3 (some (a + 61))) 4 (some (a + 69))) 5 (some (a + 77))) 6 (some (a + 85))) 7 (some (a + 93)))) rfl (t0 := 7) (r := (R_D, F_D, 12)) rfl (k2 := 101) (by decide) (vs := [.ref (a + 102), .ref (a + 107), .ref (a + 108), .int 0, .int 0, .int 0, .int 0, .int 0, .int 0, .int 0, .int 0, .int 0]) rfl rfl (i := 8) (by decide) (show rd_in 8 10 by decide) d_K_init_128 (fun H locs hW => ?_)
  have hW : gw D rd_cl a 109 _ s.heap H _ := hW
  refine lv_iinc (v := 9) (lv' := [(1, .int 9), (0, .ref a)]) hx hb d_K_init_129 hl (k := 0) rfl (by decide) (by decide) rfl (fun ls hl => ?_)
  refine lv_goto (tgt := 110) hx hb d_K_init_132 (by decide) ?_
  refine lv_iload_n hx hb d_K_init_110 rfl (lv_at hl 0 rfl) ?_
  refine lv_bipush (v := 10) hx hb d_K_init_111 (by decide) ?_
  refine lv_icmp_ge (tgt := 135) hx hb d_K_init_113 (by decide) (fun c9 => absurd c9 (by decide)) (fun _ => ?_)
  refine lv_aload_n hx hb d_K_init_116 rfl (lv_at hl 1 rfl) ?_
  refine g_get C9 hW (k := 0) (by decide) (fs := [.ref (a + 1), .ref (a + 2), .ref (a + 15), .ref (a + 36), .int 0]) rfl rfl fi_K 3 (by decide) rfl l_K_29 d_K_init_117 ?_
  refine lv_iload_n hx hb d_K_init_120 rfl (lv_at hl 0 rfl) ?_
  refine g_new C9 hW (by show s.heap.size + 108 = a + 109; omega) (fun h => absurd h (by decide)) fi_D ft_D ft_D_ok l_K_27 it_D ii_D (ci := 5) rfl bl_D (Nat.le_of_ble_eq_true rfl) (Nat.le_of_ble_eq_true rfl) d_K_init_121 (fun H hW => ?_)
  have hW : gw D rd_cl a 110 _ s.heap H _ := hW
  refine lv_dup hx hb d_K_init_124 rfl ?_
  refine g_call (n := 109) (rest := [.ref (a + 109), .int 9, .ref (a + 36)]) rd_gd C9 hW (by show s.heap.size + 109 = a + 110; omega) (c_D_init l D Ka) rfl kc_D_init rfl ki_D_init l_K_33 ⟨Nat.le_of_ble_eq_true rfl, Nat.le_of_ble_eq_true rfl⟩ ⟨Nat.le_of_ble_eq_true rfl, Nat.le_of_ble_eq_true rfl⟩ hl.1 (Nat.le_of_ble_eq_true rfl) d_K_init_125 (fun H locs hW => ?_)
  have hW : gw D rd_cl a 117 _ s.heap H _ := hW
  refine g_aast C9 hW (k := 36) (by decide) (f := (va_up (va_up (va_up (va_up (va_up (va_up (va_up (va_up (va_up (fun _ => none) 0 (some (a + 37))) 1 (some (a + 45))) 2 (some (a + 53))) 3 (some (a + 61))) 4 (some (a + 69))) 5 (some (a + 77))) 6 (some (a + 85))) 7 (some (a + 93))) 8 (some (a + 101)))) rfl (t0 := 7) (r := (R_D, F_D, 12)) rfl (k2 := 109) (by decide) (vs := [.ref (a + 110), .ref (a + 115), .ref (a + 116), .int 0, .int 0, .int 0, .int 0, .int 0, .int 0, .int 0, .int 0, .int 0]) rfl rfl (i := 9) (by decide) (show rd_in 9 10 by decide) d_K_init_128 (fun H locs hW => ?_)
  have hW : gw D rd_cl a 117 _ s.heap H _ := hW
  refine lv_iinc (v := 10) (lv' := [(1, .int 10), (0, .ref a)]) hx hb d_K_init_129 hl (k := 0) rfl (by decide) (by decide) rfl (fun ls hl => ?_)
  refine lv_goto (tgt := 110) hx hb d_K_init_132 (by decide) ?_
  refine lv_iload_n hx hb d_K_init_110 rfl (lv_at hl 0 rfl) ?_
  refine lv_bipush (v := 10) hx hb d_K_init_111 (by decide) ?_
  refine lv_icmp_ge (tgt := 135) hx hb d_K_init_113 (by decide) (fun _ => ?_) (fun c9 => absurd (by decide) c9)
  refine lv_aload_n hx hb d_K_init_135 rfl (lv_at hl 1 rfl) ?_
  refine lv_iconst (v := 0) hx hb d_K_init_136 (by decide) ?_
  refine g_put C9 hW (k := 0) (by decide) (fs := [.ref (a + 1), .ref (a + 2), .ref (a + 15), .ref (a + 36), .int 0]) rfl rfl fi_K ft_K ft_K_ok fn_K 4 (by decide) l_K_34 rfl (t := .int) (by decide +kernel) rfl rfl (Nat.le_of_ble_eq_true rfl) d_K_init_137 (fun H locs hW => ?_)
  have hW : gw D rd_cl a 117 _ s.heap H _ := hW
  refine g_ret C9 hlk hret hW (fun k hk => ?_) (by decide) (by decide) d_K_init_140
  match k, hk with
  | 0, _ => exact Or.inl rfl
  | 1, _ => exact Or.inl rfl
  | 2, _ =>
    refine Or.inr ⟨_, _, (va_up (va_up (va_up (va_up (fun _ => none) 0 (some (a + 3))) 1 (some (a + 6))) 2 (some (a + 9))) 3 (some (a + 12))), _, rfl, rfl, fun i hi => ?_⟩
    match i, hi with
    | 0, _ => rfl
    | 1, _ => rfl
    | 2, _ => rfl
    | 3, _ => rfl
    | i + 4, h => exact absurd h (by omega)
  | 3, _ => exact Or.inl rfl
  | 4, _ => exact Or.inl rfl
  | 5, _ => exact Or.inl rfl
  | 6, _ => exact Or.inl rfl
  | 7, _ => exact Or.inl rfl
  | 8, _ => exact Or.inl rfl
  | 9, _ => exact Or.inl rfl
  | 10, _ => exact Or.inl rfl
  | 11, _ => exact Or.inl rfl
  | 12, _ => exact Or.inl rfl
  | 13, _ => exact Or.inl rfl
  | 14, _ => exact Or.inl rfl
  | 15, _ =>
    refine Or.inr ⟨_, _, (va_up (va_up (fun _ => none) 0 (some (a + 16))) 1 (some (a + 26))), _, rfl, rfl, fun i hi => ?_⟩
    match i, hi with
    | 0, _ => rfl
    | 1, _ => rfl
    | i + 2, h => exact absurd h (by omega)
  | 16, _ => exact Or.inl rfl
  | 17, _ =>
    refine Or.inr ⟨_, _, _, _, rfl, rfl, fun i hi => ?_⟩
    match i, hi with
    | 0, _ => rfl
    | 1, _ => rfl
    | 2, _ => rfl
    | 3, _ => rfl
    | 4, _ => rfl
    | 5, _ => rfl
    | 6, _ => rfl
    | 7, _ => rfl
    | i + 8, h => exact absurd h (by omega)
  | 18, _ => exact Or.inl rfl
  | 19, _ => exact Or.inl rfl
  | 20, _ => exact Or.inl rfl
  | 21, _ => exact Or.inl rfl
  | 22, _ => exact Or.inl rfl
  | 23, _ => exact Or.inl rfl
  | 24, _ => exact Or.inl rfl
  | 25, _ => exact Or.inl rfl
  | 26, _ => exact Or.inl rfl
  | 27, _ =>
    refine Or.inr ⟨_, _, _, _, rfl, rfl, fun i hi => ?_⟩
    match i, hi with
    | 0, _ => rfl
    | 1, _ => rfl
    | 2, _ => rfl
    | 3, _ => rfl
    | 4, _ => rfl
    | 5, _ => rfl
    | 6, _ => rfl
    | 7, _ => rfl
    | i + 8, h => exact absurd h (by omega)
  | 28, _ => exact Or.inl rfl
  | 29, _ => exact Or.inl rfl
  | 30, _ => exact Or.inl rfl
  | 31, _ => exact Or.inl rfl
  | 32, _ => exact Or.inl rfl
  | 33, _ => exact Or.inl rfl
  | 34, _ => exact Or.inl rfl
  | 35, _ => exact Or.inl rfl
  | 36, _ =>
    refine Or.inr ⟨_, _, (va_up (va_up (va_up (va_up (va_up (va_up (va_up (va_up (va_up (va_up (fun _ => none) 0 (some (a + 37))) 1 (some (a + 45))) 2 (some (a + 53))) 3 (some (a + 61))) 4 (some (a + 69))) 5 (some (a + 77))) 6 (some (a + 85))) 7 (some (a + 93))) 8 (some (a + 101))) 9 (some (a + 109))), _, rfl, rfl, fun i hi => ?_⟩
    match i, hi with
    | 0, _ => rfl
    | 1, _ => rfl
    | 2, _ => rfl
    | 3, _ => rfl
    | 4, _ => rfl
    | 5, _ => rfl
    | 6, _ => rfl
    | 7, _ => rfl
    | 8, _ => rfl
    | 9, _ => rfl
    | i + 10, h => exact absurd h (by omega)
  | 37, _ => exact Or.inl rfl
  | 38, _ =>
    refine Or.inr ⟨_, _, _, _, rfl, rfl, fun i hi => ?_⟩
    match i, hi with
    | 0, _ => rfl
    | 1, _ => rfl
    | i + 2, h => exact absurd h (by omega)
  | 39, _ => exact Or.inl rfl
  | 40, _ => exact Or.inl rfl
  | 41, _ => exact Or.inl rfl
  | 42, _ => exact Or.inl rfl
  | 43, _ => exact Or.inl rfl
  | 44, _ => exact Or.inl rfl
  | 45, _ => exact Or.inl rfl
  | 46, _ =>
    refine Or.inr ⟨_, _, _, _, rfl, rfl, fun i hi => ?_⟩
    match i, hi with
    | 0, _ => rfl
    | 1, _ => rfl
    | i + 2, h => exact absurd h (by omega)
  | 47, _ => exact Or.inl rfl
  | 48, _ => exact Or.inl rfl
  | 49, _ => exact Or.inl rfl
  | 50, _ => exact Or.inl rfl
  | 51, _ => exact Or.inl rfl
  | 52, _ => exact Or.inl rfl
  | 53, _ => exact Or.inl rfl
  | 54, _ =>
    refine Or.inr ⟨_, _, _, _, rfl, rfl, fun i hi => ?_⟩
    match i, hi with
    | 0, _ => rfl
    | 1, _ => rfl
    | i + 2, h => exact absurd h (by omega)
  | 55, _ => exact Or.inl rfl
  | 56, _ => exact Or.inl rfl
  | 57, _ => exact Or.inl rfl
  | 58, _ => exact Or.inl rfl
  | 59, _ => exact Or.inl rfl
  | 60, _ => exact Or.inl rfl
  | 61, _ => exact Or.inl rfl
  | 62, _ =>
    refine Or.inr ⟨_, _, _, _, rfl, rfl, fun i hi => ?_⟩
    match i, hi with
    | 0, _ => rfl
    | 1, _ => rfl
    | i + 2, h => exact absurd h (by omega)
  | 63, _ => exact Or.inl rfl
  | 64, _ => exact Or.inl rfl
  | 65, _ => exact Or.inl rfl
  | 66, _ => exact Or.inl rfl
  | 67, _ => exact Or.inl rfl
  | 68, _ => exact Or.inl rfl
  | 69, _ => exact Or.inl rfl
  | 70, _ =>
    refine Or.inr ⟨_, _, _, _, rfl, rfl, fun i hi => ?_⟩
    match i, hi with
    | 0, _ => rfl
    | 1, _ => rfl
    | i + 2, h => exact absurd h (by omega)
  | 71, _ => exact Or.inl rfl
  | 72, _ => exact Or.inl rfl
  | 73, _ => exact Or.inl rfl
  | 74, _ => exact Or.inl rfl
  | 75, _ => exact Or.inl rfl
  | 76, _ => exact Or.inl rfl
  | 77, _ => exact Or.inl rfl
  | 78, _ =>
    refine Or.inr ⟨_, _, _, _, rfl, rfl, fun i hi => ?_⟩
    match i, hi with
    | 0, _ => rfl
    | 1, _ => rfl
    | i + 2, h => exact absurd h (by omega)
  | 79, _ => exact Or.inl rfl
  | 80, _ => exact Or.inl rfl
  | 81, _ => exact Or.inl rfl
  | 82, _ => exact Or.inl rfl
  | 83, _ => exact Or.inl rfl
  | 84, _ => exact Or.inl rfl
  | 85, _ => exact Or.inl rfl
  | 86, _ =>
    refine Or.inr ⟨_, _, _, _, rfl, rfl, fun i hi => ?_⟩
    match i, hi with
    | 0, _ => rfl
    | 1, _ => rfl
    | i + 2, h => exact absurd h (by omega)
  | 87, _ => exact Or.inl rfl
  | 88, _ => exact Or.inl rfl
  | 89, _ => exact Or.inl rfl
  | 90, _ => exact Or.inl rfl
  | 91, _ => exact Or.inl rfl
  | 92, _ => exact Or.inl rfl
  | 93, _ => exact Or.inl rfl
  | 94, _ =>
    refine Or.inr ⟨_, _, _, _, rfl, rfl, fun i hi => ?_⟩
    match i, hi with
    | 0, _ => rfl
    | 1, _ => rfl
    | i + 2, h => exact absurd h (by omega)
  | 95, _ => exact Or.inl rfl
  | 96, _ => exact Or.inl rfl
  | 97, _ => exact Or.inl rfl
  | 98, _ => exact Or.inl rfl
  | 99, _ => exact Or.inl rfl
  | 100, _ => exact Or.inl rfl
  | 101, _ => exact Or.inl rfl
  | 102, _ =>
    refine Or.inr ⟨_, _, _, _, rfl, rfl, fun i hi => ?_⟩
    match i, hi with
    | 0, _ => rfl
    | 1, _ => rfl
    | i + 2, h => exact absurd h (by omega)
  | 103, _ => exact Or.inl rfl
  | 104, _ => exact Or.inl rfl
  | 105, _ => exact Or.inl rfl
  | 106, _ => exact Or.inl rfl
  | 107, _ => exact Or.inl rfl
  | 108, _ => exact Or.inl rfl
  | 109, _ => exact Or.inl rfl
  | 110, _ =>
    refine Or.inr ⟨_, _, _, _, rfl, rfl, fun i hi => ?_⟩
    match i, hi with
    | 0, _ => rfl
    | 1, _ => rfl
    | i + 2, h => exact absurd h (by omega)
  | 111, _ => exact Or.inl rfl
  | 112, _ => exact Or.inl rfl
  | 113, _ => exact Or.inl rfl
  | 114, _ => exact Or.inl rfl
  | 115, _ => exact Or.inl rfl
  | 116, _ => exact Or.inl rfl
  | k + 117, h => exact absurd h (by omega)
