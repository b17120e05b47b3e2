set_option maxRecDepth 100000 in
set_option maxHeartbeats 4000000 in
theorem c_S_init (l : Launch) (D : va_G) (Ka : Nat → ClassId) : gN l y_S_init b_S_init 2 (2, 32, 9, 40) rd_T D rd_cl (rd_ty Ka) g_ao (.inr (2, [.null, .int 0])) 10 (sh_C Ka) := by
  refine g_body (by decide) rfl (by decide) ?_
  intro a p e s m below meth c C9 hlk hret hin hsz hW ls hl
  have hx := C9.1.1
  have hb := C9.1.2.1
  have hown := C9.1.2.2.2.1
  have hts := C9.1.2.2.2.2
  refine lv_aload_n hx hb d_S_init_0 rfl (lv_at hl 0 rfl) ?_
  refine g_obj (rest := []) C9 l_S_3 oi_i oi_c hl.1 ⟨Nat.le_of_ble_eq_true rfl, Nat.le_of_ble_eq_true rfl⟩ d_S_init_1 ?_
  refine lv_aload_n hx hb d_S_init_4 rfl (lv_at hl 0 rfl) ?_
  refine lv_bipush (v := 8) hx hb d_S_init_5 (by decide) ?_
  refine g_newq (N := 8) C9 hW (by show s.heap.size + 0 = a + 1; omega) (fun h => absurd h (by decide)) l_S_9 (List.mem_of_getElem? (i := 2) rfl) (t0 := 5) rfl (by decide) (by decide) (by decide) (Nat.le_of_ble_eq_true rfl) (Nat.le_of_ble_eq_true rfl) d_S_init_7 (fun H hW => ?_)
  have hW : gw D rd_cl a 2 _ s.heap H _ := hW
  refine g_putF hin C9 hW (k := 0) (by decide) (fs := [.null, .int 0]) rfl rfl fi_S ft_S ft_S_ok fn_S 0 (by decide) l_S_11 rfl rfl (t := (.array (.object "RegistryDesk$Thing"))) (by decide +kernel) rfl rfl (Nat.le_of_ble_eq_true rfl) d_S_init_10 (fun H locs hW => ?_)
  have hW : gw D rd_cl a 2 _ s.heap H _ := hW
  refine lv_iconst (v := 0) hx hb d_S_init_13 (by decide) ?_
  refine lv_istore_n (lv' := [(1, .int 0), (0, .ref a)]) hx hb d_S_init_14 rfl hl (by decide) rfl (fun ls hl => ?_)
  refine lv_iload_n hx hb d_S_init_15 rfl (lv_at hl 0 rfl) ?_
  refine lv_bipush (v := 8) hx hb d_S_init_16 (by decide) ?_
  refine lv_icmp_ge (tgt := 40) hx hb d_S_init_18 (by decide) (fun c9 => absurd c9 (by decide)) (fun _ => ?_)
  refine lv_aload_n hx hb d_S_init_21 rfl (lv_at hl 1 rfl) ?_
  refine g_get C9 hW (k := 0) (by decide) (fs := [.ref (a + 1), .int 0]) rfl rfl fi_S 0 (by decide) rfl l_S_11 d_S_init_22 ?_
  refine lv_iload_n hx hb d_S_init_25 rfl (lv_at hl 0 rfl) ?_
  refine g_new C9 hW (by show s.heap.size + 1 = a + 2; omega) (fun h => absurd h (by decide)) fi_T ft_T ft_T_ok l_S_9 it_T ii_T (ci := 3) rfl bl_T (Nat.le_of_ble_eq_true rfl) (Nat.le_of_ble_eq_true rfl) d_S_init_26 (fun H hW => ?_)
  have hW : gw D rd_cl a 3 _ s.heap H _ := hW
  refine lv_dup hx hb d_S_init_29 rfl ?_
  refine g_call (n := 2) (rest := [.ref (a + 2), .int 0, .ref (a + 1)]) rd_gd C9 hW (by show s.heap.size + 2 = a + 3; omega) (c_T_init l D Ka) rfl kc_T_init rfl ki_T_init l_S_17 ⟨Nat.le_of_ble_eq_true rfl, Nat.le_of_ble_eq_true rfl⟩ ⟨Nat.le_of_ble_eq_true rfl, Nat.le_of_ble_eq_true rfl⟩ hl.1 (Nat.le_of_ble_eq_true rfl) d_S_init_30 (fun H locs hW => ?_)
  have hW : gw D rd_cl a 3 _ s.heap H _ := hW
  refine g_aast C9 hW (k := 1) (by decide) (f := (fun _ => none)) rfl (t0 := 5) (r := (R_T, F_T, 4)) rfl (k2 := 2) (by decide) (vs := [.int 0, .int (-1), .int (-1), .int 0]) rfl rfl (i := 0) (by decide) (show rd_in 0 8 by decide) d_S_init_33 (fun H locs hW => ?_)
  have hW : gw D rd_cl a 3 _ s.heap H _ := hW
  refine lv_iinc (v := 1) (lv' := [(1, .int 1), (0, .ref a)]) hx hb d_S_init_34 hl (k := 0) rfl (by decide) (by decide) rfl (fun ls hl => ?_)
  refine lv_goto (tgt := 15) hx hb d_S_init_37 (by decide) ?_
  refine lv_iload_n hx hb d_S_init_15 rfl (lv_at hl 0 rfl) ?_
  refine lv_bipush (v := 8) hx hb d_S_init_16 (by decide) ?_
  refine lv_icmp_ge (tgt := 40) hx hb d_S_init_18 (by decide) (fun c9 => absurd c9 (by decide)) (fun _ => ?_)
  refine lv_aload_n hx hb d_S_init_21 rfl (lv_at hl 1 rfl) ?_
  refine g_get C9 hW (k := 0) (by decide) (fs := [.ref (a + 1), .int 0]) rfl rfl fi_S 0 (by decide) rfl l_S_11 d_S_init_22 ?_
  refine lv_iload_n hx hb d_S_init_25 rfl (lv_at hl 0 rfl) ?_
  refine g_new C9 hW (by show s.heap.size + 2 = a + 3; omega) (fun h => absurd h (by decide)) fi_T ft_T ft_T_ok l_S_9 it_T ii_T (ci := 3) rfl bl_T (Nat.le_of_ble_eq_true rfl) (Nat.le_of_ble_eq_true rfl) d_S_init_26 (fun H hW => ?_)
  have hW : gw D rd_cl a 4 _ s.heap H _ := hW
  refine lv_dup hx hb d_S_init_29 rfl ?_
  refine g_call (n := 3) (rest := [.ref (a + 3), .int 1, .ref (a + 1)]) rd_gd C9 hW (by show s.heap.size + 3 = a + 4; omega) (c_T_init l D Ka) rfl kc_T_init rfl ki_T_init l_S_17 ⟨Nat.le_of_ble_eq_true rfl, Nat.le_of_ble_eq_true rfl⟩ ⟨Nat.le_of_ble_eq_true rfl, Nat.le_of_ble_eq_true rfl⟩ hl.1 (Nat.le_of_ble_eq_true rfl) d_S_init_30 (fun H locs hW => ?_)
  have hW : gw D rd_cl a 4 _ s.heap H _ := hW
  refine g_aast C9 hW (k := 1) (by decide) (f := (va_up (fun _ => none) 0 (some (a + 2)))) rfl (t0 := 5) (r := (R_T, F_T, 4)) rfl (k2 := 3) (by decide) (vs := [.int 0, .int (-1), .int (-1), .int 0]) rfl rfl (i := 1) (by decide) (show rd_in 1 8 by decide) d_S_init_33 (fun H locs hW => ?_)
  have hW : gw D rd_cl a 4 _ s.heap H _ := hW
  refine lv_iinc (v := 2) (lv' := [(1, .int 2), (0, .ref a)]) hx hb d_S_init_34 hl (k := 0) rfl (by decide) (by decide) rfl (fun ls hl => ?_)
  refine lv_goto (tgt := 15) hx hb d_S_init_37 (by decide) ?_
  refine lv_iload_n hx hb d_S_init_15 rfl (lv_at hl 0 rfl) ?_
  refine lv_bipush (v := 8) hx hb d_S_init_16 (by decide) ?_
  refine lv_icmp_ge (tgt := 40) hx hb d_S_init_18 (by decide) (fun c9 => absurd c9 (by decide)) (fun _ => ?_)
  refine lv_aload_n hx hb d_S_init_21 rfl (lv_at hl 1 rfl) ?_
  refine g_get C9 hW (k := 0) (by decide) (fs := [.ref (a + 1), .int 0]) rfl rfl fi_S 0 (by decide) rfl l_S_11 d_S_init_22 ?_
  refine lv_iload_n hx hb d_S_init_25 rfl (lv_at hl 0 rfl) ?_
  refine g_new C9 hW (by show s.heap.size + 3 = a + 4; omega) (fun h => absurd h (by decide)) fi_T ft_T ft_T_ok l_S_9 it_T ii_T (ci := 3) rfl bl_T (Nat.le_of_ble_eq_true rfl) (Nat.le_of_ble_eq_true rfl) d_S_init_26 (fun H hW => ?_)
  have hW : gw D rd_cl a 5 _ s.heap H _ := hW
  refine lv_dup hx hb d_S_init_29 rfl ?_
  refine g_call (n := 4) (rest := [.ref (a + 4), .int 2, .ref (a + 1)]) rd_gd C9 hW (by show s.heap.size + 4 = a + 5; omega) (c_T_init l D Ka) rfl kc_T_init rfl ki_T_init l_S_17 ⟨Nat.le_of_ble_eq_true rfl, Nat.le_of_ble_eq_true rfl⟩ ⟨Nat.le_of_ble_eq_true rfl, Nat.le_of_ble_eq_true rfl⟩ hl.1 (Nat.le_of_ble_eq_true rfl) d_S_init_30 (fun H locs hW => ?_)
  have hW : gw D rd_cl a 5 _ s.heap H _ := hW
  refine g_aast C9 hW (k := 1) (by decide) (f := (va_up (va_up (fun _ => none) 0 (some (a + 2))) 1 (some (a + 3)))) rfl (t0 := 5) (r := (R_T, F_T, 4)) rfl (k2 := 4) (by decide) (vs := [.int 0, .int (-1), .int (-1), .int 0]) rfl rfl (i := 2) (by decide) (show rd_in 2 8 by decide) d_S_init_33 (fun H locs hW => ?_)
  have hW : gw D rd_cl a 5 _ s.heap H _ := hW
  refine lv_iinc (v := 3) (lv' := [(1, .int 3), (0, .ref a)]) hx hb d_S_init_34 hl (k := 0) rfl (by decide) (by decide) rfl (fun ls hl => ?_)
  refine lv_goto (tgt := 15) hx hb d_S_init_37 (by decide) ?_
  refine lv_iload_n hx hb d_S_init_15 rfl (lv_at hl 0 rfl) ?_
  refine lv_bipush (v := 8) hx hb d_S_init_16 (by decide) ?_
  refine lv_icmp_ge (tgt := 40) hx hb d_S_init_18 (by decide) (fun c9 => absurd c9 (by decide)) (fun _ => ?_)
  refine lv_aload_n hx hb d_S_init_21 rfl (lv_at hl 1 rfl) ?_
  refine g_get C9 hW (k := 0) (by decide) (fs := [.ref (a + 1), .int 0]) rfl rfl fi_S 0 (by decide) rfl l_S_11 d_S_init_22 ?_
  refine lv_iload_n hx hb d_S_init_25 rfl (lv_at hl 0 rfl) ?_
  refine g_new C9 hW (by show s.heap.size + 4 = a + 5; omega) (fun h => absurd h (by decide)) fi_T ft_T ft_T_ok l_S_9 it_T ii_T (ci := 3) rfl bl_T (Nat.le_of_ble_eq_true rfl) (Nat.le_of_ble_eq_true rfl) d_S_init_26 (fun H hW => ?_)
  have hW : gw D rd_cl a 6 _ s.heap H _ := hW
  refine lv_dup hx hb d_S_init_29 rfl ?_
  refine g_call (n := 5) (rest := [.ref (a + 5), .int 3, .ref (a + 1)]) rd_gd C9 hW (by show s.heap.size + 5 = a + 6; omega) (c_T_init l D Ka) rfl kc_T_init rfl ki_T_init l_S_17 ⟨Nat.le_of_ble_eq_true rfl, Nat.le_of_ble_eq_true rfl⟩ ⟨Nat.le_of_ble_eq_true rfl, Nat.le_of_ble_eq_true rfl⟩ hl.1 (Nat.le_of_ble_eq_true rfl) d_S_init_30 (fun H locs hW => ?_)
  have hW : gw D rd_cl a 6 _ s.heap H _ := hW
  refine g_aast C9 hW (k := 1) (by decide) (f := (va_up (va_up (va_up (fun _ => none) 0 (some (a + 2))) 1 (some (a + 3))) 2 (some (a + 4)))) rfl (t0 := 5) (r := (R_T, F_T, 4)) rfl (k2 := 5) (by decide) (vs := [.int 0, .int (-1), .int (-1), .int 0]) rfl rfl (i := 3) (by decide) (show rd_in 3 8 by decide) d_S_init_33 (fun H locs hW => ?_)
  have hW : gw D rd_cl a 6 _ s.heap H _ := hW
  refine lv_iinc (v := 4) (lv' := [(1, .int 4), (0, .ref a)]) hx hb d_S_init_34 hl (k := 0) rfl (by decide) (by decide) rfl (fun ls hl => ?_)
  refine lv_goto (tgt := 15) hx hb d_S_init_37 (by decide) ?_
  refine lv_iload_n hx hb d_S_init_15 rfl (lv_at hl 0 rfl) ?_
  refine lv_bipush (v := 8) hx hb d_S_init_16 (by decide) ?_
  refine lv_icmp_ge (tgt := 40) hx hb d_S_init_18 (by decide) (fun c9 => absurd c9 (by decide)) (fun _ => ?_)
  refine lv_aload_n hx hb d_S_init_21 rfl (lv_at hl 1 rfl) ?_
  refine g_get C9 hW (k := 0) (by decide) (fs := [.ref (a + 1), .int 0]) rfl rfl fi_S 0 (by decide) rfl l_S_11 d_S_init_22 ?_
  refine lv_iload_n hx hb d_S_init_25 rfl (lv_at hl 0 rfl) ?_
  refine g_new C9 hW (by show s.heap.size + 5 = a + 6; omega) (fun h => absurd h (by decide)) fi_T ft_T ft_T_ok l_S_9 it_T ii_T (ci := 3) rfl bl_T (Nat.le_of_ble_eq_true rfl) (Nat.le_of_ble_eq_true rfl) d_S_init_26 (fun H hW => ?_)
  have hW : gw D rd_cl a 7 _ s.heap H _ := hW
  refine lv_dup hx hb d_S_init_29 rfl ?_
  refine g_call (n := 6) (rest := [.ref (a + 6), .int 4, .ref (a + 1)]) rd_gd C9 hW (by show s.heap.size + 6 = a + 7; omega) (c_T_init l D Ka) rfl kc_T_init rfl ki_T_init l_S_17 ⟨Nat.le_of_ble_eq_true rfl, Nat.le_of_ble_eq_true rfl⟩ ⟨Nat.le_of_ble_eq_true rfl, Nat.le_of_ble_eq_true rfl⟩ hl.1 (Nat.le_of_ble_eq_true rfl) d_S_init_30 (fun H locs hW => ?_)
  have hW : gw D rd_cl a 7 _ s.heap H _ := hW
  refine g_aast C9 hW (k := 1) (by decide) (f := (va_up (va_up (va_up (va_up (fun _ => none) 0 (some (a + 2))) 1 (some (a + 3))) 2 (some (a + 4))) 3 (some (a + 5)))) rfl (t0 := 5) (r := (R_T, F_T, 4)) rfl (k2 := 6) (by decide) (vs := [.int 0, .int (-1), .int (-1), .int 0]) rfl rfl (i := 4) (by decide) (show rd_in 4 8 by decide) d_S_init_33 (fun H locs hW => ?_)
  have hW : gw D rd_cl a 7 _ s.heap H _ := hW
  refine lv_iinc (v := 5) (lv' := [(1, .int 5), (0, .ref a)]) hx hb d_S_init_34 hl (k := 0) rfl (by decide) (by decide) rfl (fun ls hl => ?_)
  refine lv_goto (tgt := 15) hx hb d_S_init_37 (by decide) ?_
  refine lv_iload_n hx hb d_S_init_15 rfl (lv_at hl 0 rfl) ?_
  refine lv_bipush (v := 8) hx hb d_S_init_16 (by decide) ?_
  refine lv_icmp_ge (tgt := 40) hx hb d_S_init_18 (by decide) (fun c9 => absurd c9 (by decide)) (fun _ => ?_)
  refine lv_aload_n hx hb d_S_init_21 rfl (lv_at hl 1 rfl) ?_
  refine g_get C9 hW (k := 0) (by decide) (fs := [.ref (a + 1), .int 0]) rfl rfl fi_S 0 (by decide) rfl l_S_11 d_S_init_22 ?_
  refine lv_iload_n hx hb d_S_init_25 rfl (lv_at hl 0 rfl) ?_
  refine g_new C9 hW (by show s.heap.size + 6 = a + 7; omega) (fun h => absurd h (by decide)) fi_T ft_T ft_T_ok l_S_9 it_T ii_T (ci := 3) rfl bl_T (Nat.le_of_ble_eq_true rfl) (Nat.le_of_ble_eq_true rfl) d_S_init_26 (fun H hW => ?_)
  have hW : gw D rd_cl a 8 _ s.heap H _ := hW
  refine lv_dup hx hb d_S_init_29 rfl ?_
  refine g_call (n := 7) (rest := [.ref (a + 7), .int 5, .ref (a + 1)]) rd_gd C9 hW (by show s.heap.size + 7 = a + 8; omega) (c_T_init l D Ka) rfl kc_T_init rfl ki_T_init l_S_17 ⟨Nat.le_of_ble_eq_true rfl, Nat.le_of_ble_eq_true rfl⟩ ⟨Nat.le_of_ble_eq_true rfl, Nat.le_of_ble_eq_true rfl⟩ hl.1 (Nat.le_of_ble_eq_true rfl) d_S_init_30 (fun H locs hW => ?_)
  have hW : gw D rd_cl a 8 _ s.heap H _ := hW
  refine g_aast C9 hW (k := 1) (by decide) (f := (va_up (va_up (va_up (va_up (va_up (fun _ => none) 0 (some (a + 2))) 1 (some (a + 3))) 2 (some (a + 4))) 3 (some (a + 5))) 4 (some (a + 6)))) rfl (t0 := 5) (r := (R_T, F_T, 4)) rfl (k2 := 7) (by decide) (vs := [.int 0, .int (-1), .int (-1), .int 0]) rfl rfl (i := 5) (by decide) (show rd_in 5 8 by decide) d_S_init_33 (fun H locs hW => ?_)
  have hW : gw D rd_cl a 8 _ s.heap H _ := hW
  refine lv_iinc (v := 6) (lv' := [(1, .int 6), (0, .ref a)]) hx hb d_S_init_34 hl (k := 0) rfl (by decide) (by decide) rfl (fun ls hl => ?_)
  refine lv_goto (tgt := 15) hx hb d_S_init_37 (by decide) ?_
  refine lv_iload_n hx hb d_S_init_15 rfl (lv_at hl 0 rfl) ?_
  refine lv_bipush (v := 8) hx hb d_S_init_16 (by decide) ?_
  refine lv_icmp_ge (tgt := 40) hx hb d_S_init_18 (by decide) (fun c9 => absurd c9 (by decide)) (fun _ => ?_)
  refine lv_aload_n hx hb d_S_init_21 rfl (lv_at hl 1 rfl) ?_
  refine g_get C9 hW (k := 0) (by decide) (fs := [.ref (a + 1), .int 0]) rfl rfl fi_S 0 (by decide) rfl l_S_11 d_S_init_22 ?_
  refine lv_iload_n hx hb d_S_init_25 rfl (lv_at hl 0 rfl) ?_
  refine g_new C9 hW (by show s.heap.size + 7 = a + 8; omega) (fun h => absurd h (by decide)) fi_T ft_T ft_T_ok l_S_9 it_T ii_T (ci := 3) rfl bl_T (Nat.le_of_ble_eq_true rfl) (Nat.le_of_ble_eq_true rfl) d_S_init_26 (fun H hW => ?_)
  have hW : gw D rd_cl a 9 _ s.heap H _ := hW
  refine lv_dup hx hb d_S_init_29 rfl ?_
  refine g_call (n := 8) (rest := [.ref (a + 8), .int 6, .ref (a + 1)]) rd_gd C9 hW (by show s.heap.size + 8 = a + 9; omega) (c_T_init l D Ka) rfl kc_T_init rfl ki_T_init l_S_17 ⟨Nat.le_of_ble_eq_true rfl, Nat.le_of_ble_eq_true rfl⟩ ⟨Nat.le_of_ble_eq_true rfl, Nat.le_of_ble_eq_true rfl⟩ hl.1 (Nat.le_of_ble_eq_true rfl) d_S_init_30 (fun H locs hW => ?_)
  have hW : gw D rd_cl a 9 _ s.heap H _ := hW
  refine g_aast C9 hW (k := 1) (by decide) (f := (va_up (va_up (va_up (va_up (va_up (va_up (fun _ => none) 0 (some (a + 2))) 1 (some (a + 3))) 2 (some (a + 4))) 3 (some (a + 5))) 4 (some (a + 6))) 5 (some (a + 7)))) rfl (t0 := 5) (r := (R_T, F_T, 4)) rfl (k2 := 8) (by decide) (vs := [.int 0, .int (-1), .int (-1), .int 0]) rfl rfl (i := 6) (by decide) (show rd_in 6 8 by decide) d_S_init_33 (fun H locs hW => ?_)
  have hW : gw D rd_cl a 9 _ s.heap H _ := hW
  refine lv_iinc (v := 7) (lv' := [(1, .int 7), (0, .ref a)]) hx hb d_S_init_34 hl (k := 0) rfl (by decide) (by decide) rfl (fun ls hl => ?_)
  refine lv_goto (tgt := 15) hx hb d_S_init_37 (by decide) ?_
  refine lv_iload_n hx hb d_S_init_15 rfl (lv_at hl 0 rfl) ?_
  refine lv_bipush (v := 8) hx hb d_S_init_16 (by decide) ?_
  refine lv_icmp_ge (tgt := 40) hx hb d_S_init_18 (by decide) (fun c9 => absurd c9 (by decide)) (fun _ => ?_)
  refine lv_aload_n hx hb d_S_init_21 rfl (lv_at hl 1 rfl) ?_
  refine g_get C9 hW (k := 0) (by decide) (fs := [.ref (a + 1), .int 0]) rfl rfl fi_S 0 (by decide) rfl l_S_11 d_S_init_22 ?_
  refine lv_iload_n hx hb d_S_init_25 rfl (lv_at hl 0 rfl) ?_
  refine g_new C9 hW (by show s.heap.size + 8 = a + 9; omega) (fun h => absurd h (by decide)) fi_T ft_T ft_T_ok l_S_9 it_T ii_T (ci := 3) rfl bl_T (Nat.le_of_ble_eq_true rfl) (Nat.le_of_ble_eq_true rfl) d_S_init_26 (fun H hW => ?_)
  have hW : gw D rd_cl a 10 _ s.heap H _ := hW
  refine lv_dup hx hb d_S_init_29 rfl ?_
  refine g_call (n := 9) (rest := [.ref (a + 9), .int 7, .ref (a + 1)]) rd_gd C9 hW (by show s.heap.size + 9 = a + 10; omega) (c_T_init l D Ka) rfl kc_T_init rfl ki_T_init l_S_17 ⟨Nat.le_of_ble_eq_true rfl, Nat.le_of_ble_eq_true rfl⟩ ⟨Nat.le_of_ble_eq_true rfl, Nat.le_of_ble_eq_true rfl⟩ hl.1 (Nat.le_of_ble_eq_true rfl) d_S_init_30 (fun H locs hW => ?_)
  have hW : gw D rd_cl a 10 _ s.heap H _ := hW
  refine g_aast C9 hW (k := 1) (by decide) (f := (va_up (va_up (va_up (va_up (va_up (va_up (va_up (fun _ => none) 0 (some (a + 2))) 1 (some (a + 3))) 2 (some (a + 4))) 3 (some (a + 5))) 4 (some (a + 6))) 5 (some (a + 7))) 6 (some (a + 8)))) rfl (t0 := 5) (r := (R_T, F_T, 4)) rfl (k2 := 9) (by decide) (vs := [.int 0, .int (-1), .int (-1), .int 0]) rfl rfl (i := 7) (by decide) (show rd_in 7 8 by decide) d_S_init_33 (fun H locs hW => ?_)
  have hW : gw D rd_cl a 10 _ s.heap H _ := hW
  refine lv_iinc (v := 8) (lv' := [(1, .int 8), (0, .ref a)]) hx hb d_S_init_34 hl (k := 0) rfl (by decide) (by decide) rfl (fun ls hl => ?_)
  refine lv_goto (tgt := 15) hx hb d_S_init_37 (by decide) ?_
  refine lv_iload_n hx hb d_S_init_15 rfl (lv_at hl 0 rfl) ?_
  refine lv_bipush (v := 8) hx hb d_S_init_16 (by decide) ?_
  refine lv_icmp_ge (tgt := 40) hx hb d_S_init_18 (by decide) (fun _ => ?_) (fun c9 => absurd (by decide) c9)
  refine lv_aload_n hx hb d_S_init_40 rfl (lv_at hl 1 rfl) ?_
  refine lv_iconst (v := 0) hx hb d_S_init_41 (by decide) ?_
  refine g_put C9 hW (k := 0) (by decide) (fs := [.ref (a + 1), .int 0]) rfl rfl fi_S ft_S ft_S_ok fn_S 1 (by decide) l_S_18 rfl (t := .int) (by decide +kernel) rfl rfl (Nat.le_of_ble_eq_true rfl) d_S_init_42 (fun H locs hW => ?_)
  have hW : gw D rd_cl a 10 _ s.heap H _ := hW
  refine g_ret C9 hlk hret hW (fun k hk => ?_) (by decide) (by decide) d_S_init_45
  match k, hk with
  | 0, _ => exact Or.inl rfl
  | 1, _ =>
    refine Or.inr ⟨_, _, (va_up (va_up (va_up (va_up (va_up (va_up (va_up (va_up (fun _ => none) 0 (some (a + 2))) 1 (some (a + 3))) 2 (some (a + 4))) 3 (some (a + 5))) 4 (some (a + 6))) 5 (some (a + 7))) 6 (some (a + 8))) 7 (some (a + 9))), _, rfl, rfl, fun i hi => ?_⟩
    match i, hi with
    | 0, _ => rfl
    | 1, _ => rfl
    | 2, _ => rfl
    | 3, _ => rfl
    | 4, _ => rfl
    | 5, _ => rfl
    | 6, _ => rfl
    | 7, _ => rfl
    | i + 8, h => exact absurd h (by omega)
  | 2, _ => exact Or.inl rfl
  | 3, _ => exact Or.inl rfl
  | 4, _ => exact Or.inl rfl
  | 5, _ => exact Or.inl rfl
  | 6, _ => exact Or.inl rfl
  | 7, _ => exact Or.inl rfl
  | 8, _ => exact Or.inl rfl
  | 9, _ => exact Or.inl rfl
  | k + 10, h => exact absurd h (by omega)
set_option maxRecDepth 100000 in
set_option maxHeartbeats 4000000 in
theorem c_D_init (l : Launch) (D : va_G) (Ka : Nat → ClassId) : gN l y_D_init b_D_init 1 (2, 32, 7, 22) rd_T D rd_cl (rd_ty Ka) g_ao (.inr (5, [.null, .null, .null, .int 0, .int 0, .int 0, .int 0, .int 0, .int 0, .int 0, .int 0, .int 0])) 8 (do_C Ka) := by
  refine g_body (by decide) rfl (by decide) ?_
  intro a p e s m below meth c C9 hlk hret hin hsz hW ls hl
  have hx := C9.1.1
  have hb := C9.1.2.1
  have hown := C9.1.2.2.2.1
  have hts := C9.1.2.2.2.2
  refine lv_aload_n hx hb d_D_init_0 rfl (lv_at hl 0 rfl) ?_
  refine g_obj (rest := []) C9 l_D_3 oi_i oi_c hl.1 ⟨Nat.le_of_ble_eq_true rfl, Nat.le_of_ble_eq_true rfl⟩ d_D_init_1 ?_
  refine lv_aload_n hx hb d_D_init_4 rfl (lv_at hl 0 rfl) ?_
  refine lv_iconst (v := 2) hx hb d_D_init_5 (by decide) ?_
  refine g_newq (N := 2) C9 hW (by show s.heap.size + 0 = a + 1; omega) (fun h => absurd h (by decide)) l_D_9 (List.mem_of_getElem? (i := 3) rfl) (t0 := 6) rfl (by decide) (by decide) (by decide) (Nat.le_of_ble_eq_true rfl) (Nat.le_of_ble_eq_true rfl) d_D_init_6 (fun H hW => ?_)
  have hW : gw D rd_cl a 2 _ s.heap H _ := hW
  refine g_putF hin C9 hW (k := 0) (by decide) (fs := [.null, .null, .null, .int 0, .int 0, .int 0, .int 0, .int 0, .int 0, .int 0, .int 0, .int 0]) rfl rfl fi_D ft_D ft_D_ok fn_D 0 (by decide) l_D_11 rfl rfl (t := (.array (.object "RegistryDesk$Row"))) (by decide +kernel) rfl rfl (Nat.le_of_ble_eq_true rfl) d_D_init_9 (fun H locs hW => ?_)
  have hW : gw D rd_cl a 2 _ s.heap H _ := hW
  refine lv_aload_n hx hb d_D_init_12 rfl (lv_at hl 0 rfl) ?_
  refine g_get C9 hW (k := 0) (by decide) (fs := [.ref (a + 1), .null, .null, .int 0, .int 0, .int 0, .int 0, .int 0, .int 0, .int 0, .int 0, .int 0]) rfl rfl fi_D 0 (by decide) rfl l_D_11 d_D_init_13 ?_
  refine lv_iconst (v := 0) hx hb d_D_init_16 (by decide) ?_
  refine g_new C9 hW (by show s.heap.size + 1 = a + 2; omega) (fun h => absurd h (by decide)) fi_R ft_R ft_R_ok l_D_9 it_R ii_R (ci := 4) rfl bl_R (Nat.le_of_ble_eq_true rfl) (Nat.le_of_ble_eq_true rfl) d_D_init_17 (fun H hW => ?_)
  have hW : gw D rd_cl a 3 _ s.heap H _ := hW
  refine lv_dup hx hb d_D_init_20 rfl ?_
  refine g_call (n := 2) (rest := [.ref (a + 2), .int 0, .ref (a + 1)]) rd_gd C9 hW (by show s.heap.size + 2 = a + 3; omega) (c_R_init l D Ka) rfl kc_R_init rfl ki_R_init l_D_17 ⟨Nat.le_of_ble_eq_true rfl, Nat.le_of_ble_eq_true rfl⟩ ⟨Nat.le_of_ble_eq_true rfl, Nat.le_of_ble_eq_true rfl⟩ hl.1 (Nat.le_of_ble_eq_true rfl) d_D_init_21 (fun H locs hW => ?_)
  have hW : gw D rd_cl a 4 _ s.heap H _ := hW
  refine g_aast C9 hW (k := 1) (by decide) (f := (fun _ => none)) rfl (t0 := 6) (r := (R_R, F_R, 2)) rfl (k2 := 2) (by decide) (vs := [.ref (a + 3), .int 0]) rfl rfl (i := 0) (by decide) (show rd_in 0 2 by decide) d_D_init_24 (fun H locs hW => ?_)
  have hW : gw D rd_cl a 4 _ s.heap H _ := hW
  refine lv_aload_n hx hb d_D_init_25 rfl (lv_at hl 0 rfl) ?_
  refine g_get C9 hW (k := 0) (by decide) (fs := [.ref (a + 1), .null, .null, .int 0, .int 0, .int 0, .int 0, .int 0, .int 0, .int 0, .int 0, .int 0]) rfl rfl fi_D 0 (by decide) rfl l_D_11 d_D_init_26 ?_
  refine lv_iconst (v := 1) hx hb d_D_init_29 (by decide) ?_
  refine g_new C9 hW (by show s.heap.size + 3 = a + 4; omega) (fun h => absurd h (by decide)) fi_R ft_R ft_R_ok l_D_9 it_R ii_R (ci := 4) rfl bl_R (Nat.le_of_ble_eq_true rfl) (Nat.le_of_ble_eq_true rfl) d_D_init_30 (fun H hW => ?_)
  have hW : gw D rd_cl a 5 _ s.heap H _ := hW
  refine lv_dup hx hb d_D_init_33 rfl ?_
  refine g_call (n := 4) (rest := [.ref (a + 4), .int 1, .ref (a + 1)]) rd_gd C9 hW (by show s.heap.size + 4 = a + 5; omega) (c_R_init l D Ka) rfl kc_R_init rfl ki_R_init l_D_17 ⟨Nat.le_of_ble_eq_true rfl, Nat.le_of_ble_eq_true rfl⟩ ⟨Nat.le_of_ble_eq_true rfl, Nat.le_of_ble_eq_true rfl⟩ hl.1 (Nat.le_of_ble_eq_true rfl) d_D_init_34 (fun H locs hW => ?_)
  have hW : gw D rd_cl a 6 _ s.heap H _ := hW
  refine g_aast C9 hW (k := 1) (by decide) (f := (va_up (fun _ => none) 0 (some (a + 2)))) rfl (t0 := 6) (r := (R_R, F_R, 2)) rfl (k2 := 4) (by decide) (vs := [.ref (a + 5), .int 0]) rfl rfl (i := 1) (by decide) (show rd_in 1 2 by decide) d_D_init_37 (fun H locs hW => ?_)
  have hW : gw D rd_cl a 6 _ s.heap H _ := hW
  refine lv_aload_n hx hb d_D_init_38 rfl (lv_at hl 0 rfl) ?_
  refine lv_iconst (v := 5) hx hb d_D_init_39 (by decide) ?_
  refine g_newa (atype := .double) (N := 5) (a0 := (5, .inr (.inr (.inr (.inl (fun _ => 0)))))) C9 hW (by show s.heap.size + 5 = a + 6; omega) (fun h => absurd h (by decide)) ar_double (t0 := 2) rfl (by intro z h; cases h) (fun _ => rfl) (by decide) (by decide) (by decide) (Nat.le_of_ble_eq_true rfl) (Nat.le_of_ble_eq_true rfl) d_D_init_40 (fun H hW => ?_)
  have hW : gw D rd_cl a 7 _ s.heap H _ := hW
  refine g_putF hin C9 hW (k := 0) (by decide) (fs := [.ref (a + 1), .null, .null, .int 0, .int 0, .int 0, .int 0, .int 0, .int 0, .int 0, .int 0, .int 0]) rfl rfl fi_D ft_D ft_D_ok fn_D 1 (by decide) l_D_18 rfl rfl (t := (.array .double)) (by decide +kernel) rfl rfl (Nat.le_of_ble_eq_true rfl) d_D_init_42 (fun H locs hW => ?_)
  have hW : gw D rd_cl a 7 _ s.heap H _ := hW
  refine lv_aload_n hx hb d_D_init_45 rfl (lv_at hl 0 rfl) ?_
  refine lv_iconst (v := 5) hx hb d_D_init_46 (by decide) ?_
  refine g_newa (atype := .int) (N := 5) (a0 := (5, .inl (fun _ => 0))) C9 hW (by show s.heap.size + 6 = a + 7; omega) (fun h => absurd h (by decide)) ar_int (t0 := 0) rfl (by intro z h; cases h) (fun _ => rfl) (by decide) (by decide) (by decide) (Nat.le_of_ble_eq_true rfl) (Nat.le_of_ble_eq_true rfl) d_D_init_47 (fun H hW => ?_)
  have hW : gw D rd_cl a 8 _ s.heap H _ := hW
  refine g_putF hin C9 hW (k := 0) (by decide) (fs := [.ref (a + 1), .ref (a + 6), .null, .int 0, .int 0, .int 0, .int 0, .int 0, .int 0, .int 0, .int 0, .int 0]) rfl rfl fi_D ft_D ft_D_ok fn_D 2 (by decide) l_D_22 rfl rfl (t := (.array .int)) (by decide +kernel) rfl rfl (Nat.le_of_ble_eq_true rfl) d_D_init_49 (fun H locs hW => ?_)
  have hW : gw D rd_cl a 8 _ s.heap H _ := hW
  refine lv_aload_n hx hb d_D_init_52 rfl (lv_at hl 0 rfl) ?_
  refine lv_iconst (v := 0) hx hb d_D_init_53 (by decide) ?_
  refine g_put C9 hW (k := 0) (by decide) (fs := [.ref (a + 1), .ref (a + 6), .ref (a + 7), .int 0, .int 0, .int 0, .int 0, .int 0, .int 0, .int 0, .int 0, .int 0]) rfl rfl fi_D ft_D ft_D_ok fn_D 3 (by decide) l_D_26 rfl (t := .boolean) (by decide +kernel) rfl rfl (Nat.le_of_ble_eq_true rfl) d_D_init_54 (fun H locs hW => ?_)
  have hW : gw D rd_cl a 8 _ s.heap H _ := hW
  refine g_ret C9 hlk hret hW (fun k hk => ?_) (by decide) (by decide) d_D_init_57
  match k, hk with
  | 0, _ => exact Or.inl rfl
  | 1, _ =>
    refine Or.inr ⟨_, _, (va_up (va_up (fun _ => none) 0 (some (a + 2))) 1 (some (a + 4))), _, rfl, rfl, fun i hi => ?_⟩
    match i, hi with
    | 0, _ => rfl
    | 1, _ => rfl
    | i + 2, h => exact absurd h (by omega)
  | 2, _ => exact Or.inl rfl
  | 3, _ => exact Or.inl rfl
  | 4, _ => exact Or.inl rfl
  | 5, _ => exact Or.inl rfl
  | 6, _ => exact Or.inl rfl
  | 7, _ => exact Or.inl rfl
  | k + 8, h => exact absurd h (by omega)
