set_option maxRecDepth 100000 in
set_option maxHeartbeats 4000000 in
theorem c_N_init (l : Launch) (D : va_G) (Ka : Nat → ClassId) : gN l y_N_init b_N_init 1 (1, 12, 21, 368) rd_T D rd_cl (rd_ty Ka) g_ao (.inr (6, [.int 0, .int 0, .null, .null, .null, .null, .null, .int 0, .null, .int 0, .null, .null, .null, .null, .null, .null, .null, .null, .null, .null, .null, .null, .null, .null, .null])) 22 (rm_C Ka) := by
  refine g_body (by decide) rfl (by decide) ?_
  intro a p e s m below meth c C9 hlk hret hin hsz hW ls hl
  have hx := C9.1.1
  have hb := C9.1.2.1
  have hown := C9.1.2.2.2.1
  have hts := C9.1.2.2.2.2
  refine lv_aload_n hx hb d_N_init_0 rfl (lv_at hl 0 rfl) ?_
  refine g_obj (rest := []) C9 l_N_1 oi_i oi_c hl.1 ⟨Nat.le_of_ble_eq_true rfl, Nat.le_of_ble_eq_true rfl⟩ d_N_init_1 ?_
  refine lv_aload_n hx hb d_N_init_4 rfl (lv_at hl 0 rfl) ?_
  refine lv_iconst (v := 4) hx hb d_N_init_5 (by decide) ?_
  refine g_newa (atype := .long) (N := 4) (a0 := (4, .inr (.inl (fun _ => 0)))) C9 hW (by show s.heap.size + 0 = a + 1; omega) (fun h => absurd h (by decide)) ar_long (t0 := 1) rfl (by intro z h; cases h) (fun _ => rfl) (by decide) (by decide) (by decide) (Nat.le_of_ble_eq_true rfl) (Nat.le_of_ble_eq_true rfl) d_N_init_6 (fun H hW => ?_)
  have hW : gw D rd_cl a 2 _ s.heap H _ := hW
  refine lv_dup hx hb d_N_init_8 rfl ?_
  refine lv_iconst (v := 0) hx hb d_N_init_9 (by decide) ?_
  refine lv_ldc2 hx hb hown (hts _ l_N_7) d_N_init_10 ?_
  refine g_last C9 hW (k := 1) (by decide) (f := (fun _ => 0)) rfl (t0 := 1) rfl (i := 0) (by decide) (show rd_in 0 4 by decide) d_N_init_13 (fun H locs hW => ?_)
  have hW : gw D rd_cl a 2 _ s.heap H _ := hW
  refine lv_dup hx hb d_N_init_14 rfl ?_
  refine lv_iconst (v := 1) hx hb d_N_init_15 (by decide) ?_
  refine lv_ldc2 hx hb hown (hts _ l_N_7) d_N_init_16 ?_
  refine g_last C9 hW (k := 1) (by decide) (f := (vp_updL (fun _ => 0) 0 64)) rfl (t0 := 1) rfl (i := 1) (by decide) (show rd_in 1 4 by decide) d_N_init_19 (fun H locs hW => ?_)
  have hW : gw D rd_cl a 2 _ s.heap H _ := hW
  refine lv_dup hx hb d_N_init_20 rfl ?_
  refine lv_iconst (v := 2) hx hb d_N_init_21 (by decide) ?_
  refine lv_ldc2 hx hb hown (hts _ l_N_7) d_N_init_22 ?_
  refine g_last C9 hW (k := 1) (by decide) (f := (vp_updL (vp_updL (fun _ => 0) 0 64) 1 64)) rfl (t0 := 1) rfl (i := 2) (by decide) (show rd_in 2 4 by decide) d_N_init_25 (fun H locs hW => ?_)
  have hW : gw D rd_cl a 2 _ s.heap H _ := hW
  refine lv_dup hx hb d_N_init_26 rfl ?_
  refine lv_iconst (v := 3) hx hb d_N_init_27 (by decide) ?_
  refine lv_ldc2 hx hb hown (hts _ l_N_7) d_N_init_28 ?_
  refine g_last C9 hW (k := 1) (by decide) (f := (vp_updL (vp_updL (vp_updL (fun _ => 0) 0 64) 1 64) 2 64)) rfl (t0 := 1) rfl (i := 3) (by decide) (show rd_in 3 4 by decide) d_N_init_31 (fun H locs hW => ?_)
  have hW : gw D rd_cl a 2 _ s.heap H _ := hW
  refine g_putF hin C9 hW (k := 0) (by decide) (fs := [.int 0, .int 0, .null, .null, .null, .null, .null, .int 0, .null, .int 0, .null, .null, .null, .null, .null, .null, .null, .null, .null, .null, .null, .null, .null, .null, .null]) rfl rfl fi_N ft_N ft_N_ok fn_N 2 (by decide) l_N_9 rfl rfl (t := (.array .long)) (by decide +kernel) rfl rfl (Nat.le_of_ble_eq_true rfl) d_N_init_32 (fun H locs hW => ?_)
  have hW : gw D rd_cl a 2 _ s.heap H _ := hW
  refine lv_aload_n hx hb d_N_init_35 rfl (lv_at hl 0 rfl) ?_
  refine lv_iconst (v := 4) hx hb d_N_init_36 (by decide) ?_
  refine g_newa (atype := .long) (N := 4) (a0 := (4, .inr (.inl (fun _ => 0)))) C9 hW (by show s.heap.size + 1 = a + 2; omega) (fun h => absurd h (by decide)) ar_long (t0 := 1) rfl (by intro z h; cases h) (fun _ => rfl) (by decide) (by decide) (by decide) (Nat.le_of_ble_eq_true rfl) (Nat.le_of_ble_eq_true rfl) d_N_init_37 (fun H hW => ?_)
  have hW : gw D rd_cl a 3 _ s.heap H _ := hW
  refine g_putF hin C9 hW (k := 0) (by decide) (fs := [.int 0, .int 0, .ref (a + 1), .null, .null, .null, .null, .int 0, .null, .int 0, .null, .null, .null, .null, .null, .null, .null, .null, .null, .null, .null, .null, .null, .null, .null]) rfl rfl fi_N ft_N ft_N_ok fn_N 3 (by decide) l_N_15 rfl rfl (t := (.array .long)) (by decide +kernel) rfl rfl (Nat.le_of_ble_eq_true rfl) d_N_init_39 (fun H locs hW => ?_)
  have hW : gw D rd_cl a 3 _ s.heap H _ := hW
  refine lv_aload_n hx hb d_N_init_42 rfl (lv_at hl 0 rfl) ?_
  refine lv_bipush (v := 16) hx hb d_N_init_43 (by decide) ?_
  refine g_newa (atype := .long) (N := 16) (a0 := (16, .inr (.inl (fun _ => 0)))) C9 hW (by show s.heap.size + 2 = a + 3; omega) (fun h => absurd h (by decide)) ar_long (t0 := 1) rfl (by intro z h; cases h) (fun _ => rfl) (by decide) (by decide) (by decide) (Nat.le_of_ble_eq_true rfl) (Nat.le_of_ble_eq_true rfl) d_N_init_45 (fun H hW => ?_)
  have hW : gw D rd_cl a 4 _ s.heap H _ := hW
  refine g_putF hin C9 hW (k := 0) (by decide) (fs := [.int 0, .int 0, .ref (a + 1), .ref (a + 2), .null, .null, .null, .int 0, .null, .int 0, .null, .null, .null, .null, .null, .null, .null, .null, .null, .null, .null, .null, .null, .null, .null]) rfl rfl fi_N ft_N ft_N_ok fn_N 4 (by decide) l_N_18 rfl rfl (t := (.array .long)) (by decide +kernel) rfl rfl (Nat.le_of_ble_eq_true rfl) d_N_init_47 (fun H locs hW => ?_)
  have hW : gw D rd_cl a 4 _ s.heap H _ := hW
  refine lv_aload_n hx hb d_N_init_50 rfl (lv_at hl 0 rfl) ?_
  refine lv_iconst (v := 4) hx hb d_N_init_51 (by decide) ?_
  refine g_newa (atype := .int) (N := 4) (a0 := (4, .inl (fun _ => 0))) C9 hW (by show s.heap.size + 3 = a + 4; omega) (fun h => absurd h (by decide)) ar_int (t0 := 0) rfl (by intro z h; cases h) (fun _ => rfl) (by decide) (by decide) (by decide) (Nat.le_of_ble_eq_true rfl) (Nat.le_of_ble_eq_true rfl) d_N_init_52 (fun H hW => ?_)
  have hW : gw D rd_cl a 5 _ s.heap H _ := hW
  refine g_putF hin C9 hW (k := 0) (by decide) (fs := [.int 0, .int 0, .ref (a + 1), .ref (a + 2), .ref (a + 3), .null, .null, .int 0, .null, .int 0, .null, .null, .null, .null, .null, .null, .null, .null, .null, .null, .null, .null, .null, .null, .null]) rfl rfl fi_N ft_N ft_N_ok fn_N 5 (by decide) l_N_21 rfl rfl (t := (.array .int)) (by decide +kernel) rfl rfl (Nat.le_of_ble_eq_true rfl) d_N_init_54 (fun H locs hW => ?_)
  have hW : gw D rd_cl a 5 _ s.heap H _ := hW
  refine lv_aload_n hx hb d_N_init_57 rfl (lv_at hl 0 rfl) ?_
  refine lv_bipush (v := 48) hx hb d_N_init_58 (by decide) ?_
  refine g_newa (atype := .int) (N := 48) (a0 := (48, .inl (fun _ => 0))) C9 hW (by show s.heap.size + 4 = a + 5; omega) (fun h => absurd h (by decide)) ar_int (t0 := 0) rfl (by intro z h; cases h) (fun _ => rfl) (by decide) (by decide) (by decide) (Nat.le_of_ble_eq_true rfl) (Nat.le_of_ble_eq_true rfl) d_N_init_60 (fun H hW => ?_)
  have hW : gw D rd_cl a 6 _ s.heap H _ := hW
  refine g_putF hin C9 hW (k := 0) (by decide) (fs := [.int 0, .int 0, .ref (a + 1), .ref (a + 2), .ref (a + 3), .ref (a + 4), .null, .int 0, .null, .int 0, .null, .null, .null, .null, .null, .null, .null, .null, .null, .null, .null, .null, .null, .null, .null]) rfl rfl fi_N ft_N ft_N_ok fn_N 6 (by decide) l_N_25 rfl rfl (t := (.array .int)) (by decide +kernel) rfl rfl (Nat.le_of_ble_eq_true rfl) d_N_init_62 (fun H locs hW => ?_)
  have hW : gw D rd_cl a 6 _ s.heap H _ := hW
  refine lv_aload_n hx hb d_N_init_65 rfl (lv_at hl 0 rfl) ?_
  refine lv_bipush (v := 8) hx hb d_N_init_66 (by decide) ?_
  refine g_newa (atype := .int) (N := 8) (a0 := (8, .inl (fun _ => 0))) C9 hW (by show s.heap.size + 5 = a + 6; omega) (fun h => absurd h (by decide)) ar_int (t0 := 0) rfl (by intro z h; cases h) (fun _ => rfl) (by decide) (by decide) (by decide) (Nat.le_of_ble_eq_true rfl) (Nat.le_of_ble_eq_true rfl) d_N_init_68 (fun H hW => ?_)
  have hW : gw D rd_cl a 7 _ s.heap H _ := hW
  refine g_putF hin C9 hW (k := 0) (by decide) (fs := [.int 0, .int 0, .ref (a + 1), .ref (a + 2), .ref (a + 3), .ref (a + 4), .ref (a + 5), .int 0, .null, .int 0, .null, .null, .null, .null, .null, .null, .null, .null, .null, .null, .null, .null, .null, .null, .null]) rfl rfl fi_N ft_N ft_N_ok fn_N 8 (by decide) l_N_28 rfl rfl (t := (.array .int)) (by decide +kernel) rfl rfl (Nat.le_of_ble_eq_true rfl) d_N_init_70 (fun H locs hW => ?_)
  have hW : gw D rd_cl a 7 _ s.heap H _ := hW
  refine lv_aload_n hx hb d_N_init_73 rfl (lv_at hl 0 rfl) ?_
  refine lv_bipush (v := 8) hx hb d_N_init_74 (by decide) ?_
  refine g_newa (atype := .int) (N := 8) (a0 := (8, .inl (fun _ => 0))) C9 hW (by show s.heap.size + 6 = a + 7; omega) (fun h => absurd h (by decide)) ar_int (t0 := 0) rfl (by intro z h; cases h) (fun _ => rfl) (by decide) (by decide) (by decide) (Nat.le_of_ble_eq_true rfl) (Nat.le_of_ble_eq_true rfl) d_N_init_76 (fun H hW => ?_)
  have hW : gw D rd_cl a 8 _ s.heap H _ := hW
  refine g_putF hin C9 hW (k := 0) (by decide) (fs := [.int 0, .int 0, .ref (a + 1), .ref (a + 2), .ref (a + 3), .ref (a + 4), .ref (a + 5), .int 0, .ref (a + 6), .int 0, .null, .null, .null, .null, .null, .null, .null, .null, .null, .null, .null, .null, .null, .null, .null]) rfl rfl fi_N ft_N ft_N_ok fn_N 10 (by decide) l_N_31 rfl rfl (t := (.array .int)) (by decide +kernel) rfl rfl (Nat.le_of_ble_eq_true rfl) d_N_init_78 (fun H locs hW => ?_)
  have hW : gw D rd_cl a 8 _ s.heap H _ := hW
  refine lv_aload_n hx hb d_N_init_81 rfl (lv_at hl 0 rfl) ?_
  refine lv_bipush (v := 8) hx hb d_N_init_82 (by decide) ?_
  refine g_newa (atype := .int) (N := 8) (a0 := (8, .inl (fun _ => 0))) C9 hW (by show s.heap.size + 7 = a + 8; omega) (fun h => absurd h (by decide)) ar_int (t0 := 0) rfl (by intro z h; cases h) (fun _ => rfl) (by decide) (by decide) (by decide) (Nat.le_of_ble_eq_true rfl) (Nat.le_of_ble_eq_true rfl) d_N_init_84 (fun H hW => ?_)
  have hW : gw D rd_cl a 9 _ s.heap H _ := hW
  refine g_putF hin C9 hW (k := 0) (by decide) (fs := [.int 0, .int 0, .ref (a + 1), .ref (a + 2), .ref (a + 3), .ref (a + 4), .ref (a + 5), .int 0, .ref (a + 6), .int 0, .ref (a + 7), .null, .null, .null, .null, .null, .null, .null, .null, .null, .null, .null, .null, .null, .null]) rfl rfl fi_N ft_N ft_N_ok fn_N 11 (by decide) l_N_34 rfl rfl (t := (.array .int)) (by decide +kernel) rfl rfl (Nat.le_of_ble_eq_true rfl) d_N_init_86 (fun H locs hW => ?_)
  have hW : gw D rd_cl a 9 _ s.heap H _ := hW
  refine lv_aload_n hx hb d_N_init_89 rfl (lv_at hl 0 rfl) ?_
  refine lv_bipush (v := 8) hx hb d_N_init_90 (by decide) ?_
  refine g_newa (atype := .int) (N := 8) (a0 := (8, .inl (fun _ => 0))) C9 hW (by show s.heap.size + 8 = a + 9; omega) (fun h => absurd h (by decide)) ar_int (t0 := 0) rfl (by intro z h; cases h) (fun _ => rfl) (by decide) (by decide) (by decide) (Nat.le_of_ble_eq_true rfl) (Nat.le_of_ble_eq_true rfl) d_N_init_92 (fun H hW => ?_)
  have hW : gw D rd_cl a 10 _ s.heap H _ := hW
  refine g_putF hin C9 hW (k := 0) (by decide) (fs := [.int 0, .int 0, .ref (a + 1), .ref (a + 2), .ref (a + 3), .ref (a + 4), .ref (a + 5), .int 0, .ref (a + 6), .int 0, .ref (a + 7), .ref (a + 8), .null, .null, .null, .null, .null, .null, .null, .null, .null, .null, .null, .null, .null]) rfl rfl fi_N ft_N ft_N_ok fn_N 12 (by decide) l_N_37 rfl rfl (t := (.array .int)) (by decide +kernel) rfl rfl (Nat.le_of_ble_eq_true rfl) d_N_init_94 (fun H locs hW => ?_)
  have hW : gw D rd_cl a 10 _ s.heap H _ := hW
  refine lv_aload_n hx hb d_N_init_97 rfl (lv_at hl 0 rfl) ?_
  refine lv_bipush (v := 10) hx hb d_N_init_98 (by decide) ?_
  refine g_newa (atype := .int) (N := 10) (a0 := (10, .inl (fun _ => 0))) C9 hW (by show s.heap.size + 9 = a + 10; omega) (fun h => absurd h (by decide)) ar_int (t0 := 0) rfl (by intro z h; cases h) (fun _ => rfl) (by decide) (by decide) (by decide) (Nat.le_of_ble_eq_true rfl) (Nat.le_of_ble_eq_true rfl) d_N_init_100 (fun H hW => ?_)
  have hW : gw D rd_cl a 11 _ s.heap H _ := hW
  refine lv_dup hx hb d_N_init_102 rfl ?_
  refine lv_iconst (v := 0) hx hb d_N_init_103 (by decide) ?_
  refine lv_iconst (v := (-1)) hx hb d_N_init_104 (by decide) ?_
  refine g_iast C9 hW (k := 10) (by decide) (f := (fun _ => 0)) rfl (t0 := 0) rfl (i := 0) (by decide) (show rd_in 0 10 by decide) d_N_init_105 (fun H locs hW => ?_)
  have hW : gw D rd_cl a 11 _ s.heap H _ := hW
  refine lv_dup hx hb d_N_init_106 rfl ?_
  refine lv_iconst (v := 1) hx hb d_N_init_107 (by decide) ?_
  refine lv_iconst (v := (-1)) hx hb d_N_init_108 (by decide) ?_
  refine g_iast C9 hW (k := 10) (by decide) (f := (upd (fun _ => 0) 0 (-1))) rfl (t0 := 0) rfl (i := 1) (by decide) (show rd_in 1 10 by decide) d_N_init_109 (fun H locs hW => ?_)
  have hW : gw D rd_cl a 11 _ s.heap H _ := hW
  refine lv_dup hx hb d_N_init_110 rfl ?_
  refine lv_iconst (v := 2) hx hb d_N_init_111 (by decide) ?_
  refine lv_iconst (v := (-1)) hx hb d_N_init_112 (by decide) ?_
  refine g_iast C9 hW (k := 10) (by decide) (f := (upd (upd (fun _ => 0) 0 (-1)) 1 (-1))) rfl (t0 := 0) rfl (i := 2) (by decide) (show rd_in 2 10 by decide) d_N_init_113 (fun H locs hW => ?_)
  have hW : gw D rd_cl a 11 _ s.heap H _ := hW
  refine lv_dup hx hb d_N_init_114 rfl ?_
  refine lv_iconst (v := 3) hx hb d_N_init_115 (by decide) ?_
  refine lv_iconst (v := (-1)) hx hb d_N_init_116 (by decide) ?_
  refine g_iast C9 hW (k := 10) (by decide) (f := (upd (upd (upd (fun _ => 0) 0 (-1)) 1 (-1)) 2 (-1))) rfl (t0 := 0) rfl (i := 3) (by decide) (show rd_in 3 10 by decide) d_N_init_117 (fun H locs hW => ?_)
  have hW : gw D rd_cl a 11 _ s.heap H _ := hW
  refine lv_dup hx hb d_N_init_118 rfl ?_
  refine lv_iconst (v := 4) hx hb d_N_init_119 (by decide) ?_
  refine lv_iconst (v := (-1)) hx hb d_N_init_120 (by decide) ?_
  refine g_iast C9 hW (k := 10) (by decide) (f := (upd (upd (upd (upd (fun _ => 0) 0 (-1)) 1 (-1)) 2 (-1)) 3 (-1))) rfl (t0 := 0) rfl (i := 4) (by decide) (show rd_in 4 10 by decide) d_N_init_121 (fun H locs hW => ?_)
  have hW : gw D rd_cl a 11 _ s.heap H _ := hW
  refine lv_dup hx hb d_N_init_122 rfl ?_
  refine lv_iconst (v := 5) hx hb d_N_init_123 (by decide) ?_
  refine lv_iconst (v := (-1)) hx hb d_N_init_124 (by decide) ?_
  refine g_iast C9 hW (k := 10) (by decide) (f := (upd (upd (upd (upd (upd (fun _ => 0) 0 (-1)) 1 (-1)) 2 (-1)) 3 (-1)) 4 (-1))) rfl (t0 := 0) rfl (i := 5) (by decide) (show rd_in 5 10 by decide) d_N_init_125 (fun H locs hW => ?_)
  have hW : gw D rd_cl a 11 _ s.heap H _ := hW
  refine lv_dup hx hb d_N_init_126 rfl ?_
  refine lv_bipush (v := 6) hx hb d_N_init_127 (by decide) ?_
  refine lv_iconst (v := (-1)) hx hb d_N_init_129 (by decide) ?_
  refine g_iast C9 hW (k := 10) (by decide) (f := (upd (upd (upd (upd (upd (upd (fun _ => 0) 0 (-1)) 1 (-1)) 2 (-1)) 3 (-1)) 4 (-1)) 5 (-1))) rfl (t0 := 0) rfl (i := 6) (by decide) (show rd_in 6 10 by decide) d_N_init_130 (fun H locs hW => ?_)
  have hW : gw D rd_cl a 11 _ s.heap H _ := hW
  refine lv_dup hx hb d_N_init_131 rfl ?_
  refine lv_bipush (v := 7) hx hb d_N_init_132 (by decide) ?_
  refine lv_iconst (v := (-1)) hx hb d_N_init_134 (by decide) ?_
  refine g_iast C9 hW (k := 10) (by decide) (f := (upd (upd (upd (upd (upd (upd (upd (fun _ => 0) 0 (-1)) 1 (-1)) 2 (-1)) 3 (-1)) 4 (-1)) 5 (-1)) 6 (-1))) rfl (t0 := 0) rfl (i := 7) (by decide) (show rd_in 7 10 by decide) d_N_init_135 (fun H locs hW => ?_)
  have hW : gw D rd_cl a 11 _ s.heap H _ := hW
  refine lv_dup hx hb d_N_init_136 rfl ?_
  refine lv_bipush (v := 8) hx hb d_N_init_137 (by decide) ?_
  refine lv_iconst (v := (-1)) hx hb d_N_init_139 (by decide) ?_
  refine g_iast C9 hW (k := 10) (by decide) (f := (upd (upd (upd (upd (upd (upd (upd (upd (fun _ => 0) 0 (-1)) 1 (-1)) 2 (-1)) 3 (-1)) 4 (-1)) 5 (-1)) 6 (-1)) 7 (-1))) rfl (t0 := 0) rfl (i := 8) (by decide) (show rd_in 8 10 by decide) d_N_init_140 (fun H locs hW => ?_)
  have hW : gw D rd_cl a 11 _ s.heap H _ := hW
  refine lv_dup hx hb d_N_init_141 rfl ?_
  refine lv_bipush (v := 9) hx hb d_N_init_142 (by decide) ?_
  refine lv_iconst (v := (-1)) hx hb d_N_init_144 (by decide) ?_
  refine g_iast C9 hW (k := 10) (by decide) (f := (upd (upd (upd (upd (upd (upd (upd (upd (upd (fun _ => 0) 0 (-1)) 1 (-1)) 2 (-1)) 3 (-1)) 4 (-1)) 5 (-1)) 6 (-1)) 7 (-1)) 8 (-1))) rfl (t0 := 0) rfl (i := 9) (by decide) (show rd_in 9 10 by decide) d_N_init_145 (fun H locs hW => ?_)
  have hW : gw D rd_cl a 11 _ s.heap H _ := hW
  refine g_putF hin C9 hW (k := 0) (by decide) (fs := [.int 0, .int 0, .ref (a + 1), .ref (a + 2), .ref (a + 3), .ref (a + 4), .ref (a + 5), .int 0, .ref (a + 6), .int 0, .ref (a + 7), .ref (a + 8), .ref (a + 9), .null, .null, .null, .null, .null, .null, .null, .null, .null, .null, .null, .null]) rfl rfl fi_N ft_N ft_N_ok fn_N 13 (by decide) l_N_40 rfl rfl (t := (.array .int)) (by decide +kernel) rfl rfl (Nat.le_of_ble_eq_true rfl) d_N_init_146 (fun H locs hW => ?_)
  have hW : gw D rd_cl a 11 _ s.heap H _ := hW
  refine lv_aload_n hx hb d_N_init_149 rfl (lv_at hl 0 rfl) ?_
  refine lv_bipush (v := 10) hx hb d_N_init_150 (by decide) ?_
  refine g_newa (atype := .int) (N := 10) (a0 := (10, .inl (fun _ => 0))) C9 hW (by show s.heap.size + 10 = a + 11; omega) (fun h => absurd h (by decide)) ar_int (t0 := 0) rfl (by intro z h; cases h) (fun _ => rfl) (by decide) (by decide) (by decide) (Nat.le_of_ble_eq_true rfl) (Nat.le_of_ble_eq_true rfl) d_N_init_152 (fun H hW => ?_)
  have hW : gw D rd_cl a 12 _ s.heap H _ := hW
  refine g_putF hin C9 hW (k := 0) (by decide) (fs := [.int 0, .int 0, .ref (a + 1), .ref (a + 2), .ref (a + 3), .ref (a + 4), .ref (a + 5), .int 0, .ref (a + 6), .int 0, .ref (a + 7), .ref (a + 8), .ref (a + 9), .ref (a + 10), .null, .null, .null, .null, .null, .null, .null, .null, .null, .null, .null]) rfl rfl fi_N ft_N ft_N_ok fn_N 14 (by decide) l_N_43 rfl rfl (t := (.array .int)) (by decide +kernel) rfl rfl (Nat.le_of_ble_eq_true rfl) d_N_init_154 (fun H locs hW => ?_)
  have hW : gw D rd_cl a 12 _ s.heap H _ := hW
  refine lv_aload_n hx hb d_N_init_157 rfl (lv_at hl 0 rfl) ?_
  refine lv_bipush (v := 10) hx hb d_N_init_158 (by decide) ?_
  refine g_newa (atype := .int) (N := 10) (a0 := (10, .inl (fun _ => 0))) C9 hW (by show s.heap.size + 11 = a + 12; omega) (fun h => absurd h (by decide)) ar_int (t0 := 0) rfl (by intro z h; cases h) (fun _ => rfl) (by decide) (by decide) (by decide) (Nat.le_of_ble_eq_true rfl) (Nat.le_of_ble_eq_true rfl) d_N_init_160 (fun H hW => ?_)
  have hW : gw D rd_cl a 13 _ s.heap H _ := hW
  refine g_putF hin C9 hW (k := 0) (by decide) (fs := [.int 0, .int 0, .ref (a + 1), .ref (a + 2), .ref (a + 3), .ref (a + 4), .ref (a + 5), .int 0, .ref (a + 6), .int 0, .ref (a + 7), .ref (a + 8), .ref (a + 9), .ref (a + 10), .ref (a + 11), .null, .null, .null, .null, .null, .null, .null, .null, .null, .null]) rfl rfl fi_N ft_N ft_N_ok fn_N 15 (by decide) l_N_46 rfl rfl (t := (.array .int)) (by decide +kernel) rfl rfl (Nat.le_of_ble_eq_true rfl) d_N_init_162 (fun H locs hW => ?_)
  have hW : gw D rd_cl a 13 _ s.heap H _ := hW
  refine lv_aload_n hx hb d_N_init_165 rfl (lv_at hl 0 rfl) ?_
  refine lv_bipush (v := 10) hx hb d_N_init_166 (by decide) ?_
  refine g_newa (atype := .int) (N := 10) (a0 := (10, .inl (fun _ => 0))) C9 hW (by show s.heap.size + 12 = a + 13; omega) (fun h => absurd h (by decide)) ar_int (t0 := 0) rfl (by intro z h; cases h) (fun _ => rfl) (by decide) (by decide) (by decide) (Nat.le_of_ble_eq_true rfl) (Nat.le_of_ble_eq_true rfl) d_N_init_168 (fun H hW => ?_)
  have hW : gw D rd_cl a 14 _ s.heap H _ := hW
  refine g_putF hin C9 hW (k := 0) (by decide) (fs := [.int 0, .int 0, .ref (a + 1), .ref (a + 2), .ref (a + 3), .ref (a + 4), .ref (a + 5), .int 0, .ref (a + 6), .int 0, .ref (a + 7), .ref (a + 8), .ref (a + 9), .ref (a + 10), .ref (a + 11), .ref (a + 12), .null, .null, .null, .null, .null, .null, .null, .null, .null]) rfl rfl fi_N ft_N ft_N_ok fn_N 16 (by decide) l_N_49 rfl rfl (t := (.array .int)) (by decide +kernel) rfl rfl (Nat.le_of_ble_eq_true rfl) d_N_init_170 (fun H locs hW => ?_)
  have hW : gw D rd_cl a 14 _ s.heap H _ := hW
  refine lv_aload_n hx hb d_N_init_173 rfl (lv_at hl 0 rfl) ?_
  refine lv_bipush (v := 10) hx hb d_N_init_174 (by decide) ?_
  refine g_newa (atype := .int) (N := 10) (a0 := (10, .inl (fun _ => 0))) C9 hW (by show s.heap.size + 13 = a + 14; omega) (fun h => absurd h (by decide)) ar_int (t0 := 0) rfl (by intro z h; cases h) (fun _ => rfl) (by decide) (by decide) (by decide) (Nat.le_of_ble_eq_true rfl) (Nat.le_of_ble_eq_true rfl) d_N_init_176 (fun H hW => ?_)
  have hW : gw D rd_cl a 15 _ s.heap H _ := hW
  refine g_putF hin C9 hW (k := 0) (by decide) (fs := [.int 0, .int 0, .ref (a + 1), .ref (a + 2), .ref (a + 3), .ref (a + 4), .ref (a + 5), .int 0, .ref (a + 6), .int 0, .ref (a + 7), .ref (a + 8), .ref (a + 9), .ref (a + 10), .ref (a + 11), .ref (a + 12), .ref (a + 13), .null, .null, .null, .null, .null, .null, .null, .null]) rfl rfl fi_N ft_N ft_N_ok fn_N 17 (by decide) l_N_52 rfl rfl (t := (.array .int)) (by decide +kernel) rfl rfl (Nat.le_of_ble_eq_true rfl) d_N_init_178 (fun H locs hW => ?_)
  have hW : gw D rd_cl a 15 _ s.heap H _ := hW
  refine lv_aload_n hx hb d_N_init_181 rfl (lv_at hl 0 rfl) ?_
  refine lv_bipush (v := 10) hx hb d_N_init_182 (by decide) ?_
  refine g_newa (atype := .int) (N := 10) (a0 := (10, .inl (fun _ => 0))) C9 hW (by show s.heap.size + 14 = a + 15; omega) (fun h => absurd h (by decide)) ar_int (t0 := 0) rfl (by intro z h; cases h) (fun _ => rfl) (by decide) (by decide) (by decide) (Nat.le_of_ble_eq_true rfl) (Nat.le_of_ble_eq_true rfl) d_N_init_184 (fun H hW => ?_)
  have hW : gw D rd_cl a 16 _ s.heap H _ := hW
  refine g_putF hin C9 hW (k := 0) (by decide) (fs := [.int 0, .int 0, .ref (a + 1), .ref (a + 2), .ref (a + 3), .ref (a + 4), .ref (a + 5), .int 0, .ref (a + 6), .int 0, .ref (a + 7), .ref (a + 8), .ref (a + 9), .ref (a + 10), .ref (a + 11), .ref (a + 12), .ref (a + 13), .ref (a + 14), .null, .null, .null, .null, .null, .null, .null]) rfl rfl fi_N ft_N ft_N_ok fn_N 18 (by decide) l_N_55 rfl rfl (t := (.array .int)) (by decide +kernel) rfl rfl (Nat.le_of_ble_eq_true rfl) d_N_init_186 (fun H locs hW => ?_)
  have hW : gw D rd_cl a 16 _ s.heap H _ := hW
  refine lv_aload_n hx hb d_N_init_189 rfl (lv_at hl 0 rfl) ?_
  refine lv_bipush (v := 10) hx hb d_N_init_190 (by decide) ?_
  refine g_newa (atype := .int) (N := 10) (a0 := (10, .inl (fun _ => 0))) C9 hW (by show s.heap.size + 15 = a + 16; omega) (fun h => absurd h (by decide)) ar_int (t0 := 0) rfl (by intro z h; cases h) (fun _ => rfl) (by decide) (by decide) (by decide) (Nat.le_of_ble_eq_true rfl) (Nat.le_of_ble_eq_true rfl) d_N_init_192 (fun H hW => ?_)
  have hW : gw D rd_cl a 17 _ s.heap H _ := hW
  refine g_putF hin C9 hW (k := 0) (by decide) (fs := [.int 0, .int 0, .ref (a + 1), .ref (a + 2), .ref (a + 3), .ref (a + 4), .ref (a + 5), .int 0, .ref (a + 6), .int 0, .ref (a + 7), .ref (a + 8), .ref (a + 9), .ref (a + 10), .ref (a + 11), .ref (a + 12), .ref (a + 13), .ref (a + 14), .ref (a + 15), .null, .null, .null, .null, .null, .null]) rfl rfl fi_N ft_N ft_N_ok fn_N 19 (by decide) l_N_58 rfl rfl (t := (.array .int)) (by decide +kernel) rfl rfl (Nat.le_of_ble_eq_true rfl) d_N_init_194 (fun H locs hW => ?_)
  have hW : gw D rd_cl a 17 _ s.heap H _ := hW
  refine lv_aload_n hx hb d_N_init_197 rfl (lv_at hl 0 rfl) ?_
  refine lv_bipush (v := 10) hx hb d_N_init_198 (by decide) ?_
  refine g_newa (atype := .int) (N := 10) (a0 := (10, .inl (fun _ => 0))) C9 hW (by show s.heap.size + 16 = a + 17; omega) (fun h => absurd h (by decide)) ar_int (t0 := 0) rfl (by intro z h; cases h) (fun _ => rfl) (by decide) (by decide) (by decide) (Nat.le_of_ble_eq_true rfl) (Nat.le_of_ble_eq_true rfl) d_N_init_200 (fun H hW => ?_)
  have hW : gw D rd_cl a 18 _ s.heap H _ := hW
  refine g_putF hin C9 hW (k := 0) (by decide) (fs := [.int 0, .int 0, .ref (a + 1), .ref (a + 2), .ref (a + 3), .ref (a + 4), .ref (a + 5), .int 0, .ref (a + 6), .int 0, .ref (a + 7), .ref (a + 8), .ref (a + 9), .ref (a + 10), .ref (a + 11), .ref (a + 12), .ref (a + 13), .ref (a + 14), .ref (a + 15), .ref (a + 16), .null, .null, .null, .null, .null]) rfl rfl fi_N ft_N ft_N_ok fn_N 20 (by decide) l_N_61 rfl rfl (t := (.array .int)) (by decide +kernel) rfl rfl (Nat.le_of_ble_eq_true rfl) d_N_init_202 (fun H locs hW => ?_)
  have hW : gw D rd_cl a 18 _ s.heap H _ := hW
  refine lv_aload_n hx hb d_N_init_205 rfl (lv_at hl 0 rfl) ?_
  refine lv_bipush (v := 60) hx hb d_N_init_206 (by decide) ?_
  refine g_newa (atype := .int) (N := 60) (a0 := (60, .inl (fun _ => 0))) C9 hW (by show s.heap.size + 17 = a + 18; omega) (fun h => absurd h (by decide)) ar_int (t0 := 0) rfl (by intro z h; cases h) (fun _ => rfl) (by decide) (by decide) (by decide) (Nat.le_of_ble_eq_true rfl) (Nat.le_of_ble_eq_true rfl) d_N_init_208 (fun H hW => ?_)
  have hW : gw D rd_cl a 19 _ s.heap H _ := hW
  refine g_putF hin C9 hW (k := 0) (by decide) (fs := [.int 0, .int 0, .ref (a + 1), .ref (a + 2), .ref (a + 3), .ref (a + 4), .ref (a + 5), .int 0, .ref (a + 6), .int 0, .ref (a + 7), .ref (a + 8), .ref (a + 9), .ref (a + 10), .ref (a + 11), .ref (a + 12), .ref (a + 13), .ref (a + 14), .ref (a + 15), .ref (a + 16), .ref (a + 17), .null, .null, .null, .null]) rfl rfl fi_N ft_N ft_N_ok fn_N 21 (by decide) l_N_64 rfl rfl (t := (.array .int)) (by decide +kernel) rfl rfl (Nat.le_of_ble_eq_true rfl) d_N_init_210 (fun H locs hW => ?_)
  have hW : gw D rd_cl a 19 _ s.heap H _ := hW
  refine lv_aload_n hx hb d_N_init_213 rfl (lv_at hl 0 rfl) ?_
  refine lv_bipush (v := 20) hx hb d_N_init_214 (by decide) ?_
  refine g_newa (atype := .int) (N := 20) (a0 := (20, .inl (fun _ => 0))) C9 hW (by show s.heap.size + 18 = a + 19; omega) (fun h => absurd h (by decide)) ar_int (t0 := 0) rfl (by intro z h; cases h) (fun _ => rfl) (by decide) (by decide) (by decide) (Nat.le_of_ble_eq_true rfl) (Nat.le_of_ble_eq_true rfl) d_N_init_216 (fun H hW => ?_)
  have hW : gw D rd_cl a 20 _ s.heap H _ := hW
  refine g_putF hin C9 hW (k := 0) (by decide) (fs := [.int 0, .int 0, .ref (a + 1), .ref (a + 2), .ref (a + 3), .ref (a + 4), .ref (a + 5), .int 0, .ref (a + 6), .int 0, .ref (a + 7), .ref (a + 8), .ref (a + 9), .ref (a + 10), .ref (a + 11), .ref (a + 12), .ref (a + 13), .ref (a + 14), .ref (a + 15), .ref (a + 16), .ref (a + 17), .ref (a + 18), .null, .null, .null]) rfl rfl fi_N ft_N ft_N_ok fn_N 22 (by decide) l_N_67 rfl rfl (t := (.array .int)) (by decide +kernel) rfl rfl (Nat.le_of_ble_eq_true rfl) d_N_init_218 (fun H locs hW => ?_)
  have hW : gw D rd_cl a 20 _ s.heap H _ := hW
  refine lv_aload_n hx hb d_N_init_221 rfl (lv_at hl 0 rfl) ?_
  refine lv_bipush (v := 50) hx hb d_N_init_222 (by decide) ?_
  refine g_newa (atype := .long) (N := 50) (a0 := (50, .inr (.inl (fun _ => 0)))) C9 hW (by show s.heap.size + 19 = a + 20; omega) (fun h => absurd h (by decide)) ar_long (t0 := 1) rfl (by intro z h; cases h) (fun _ => rfl) (by decide) (by decide) (by decide) (Nat.le_of_ble_eq_true rfl) (Nat.le_of_ble_eq_true rfl) d_N_init_224 (fun H hW => ?_)
  have hW : gw D rd_cl a 21 _ s.heap H _ := hW
  refine g_putF hin C9 hW (k := 0) (by decide) (fs := [.int 0, .int 0, .ref (a + 1), .ref (a + 2), .ref (a + 3), .ref (a + 4), .ref (a + 5), .int 0, .ref (a + 6), .int 0, .ref (a + 7), .ref (a + 8), .ref (a + 9), .ref (a + 10), .ref (a + 11), .ref (a + 12), .ref (a + 13), .ref (a + 14), .ref (a + 15), .ref (a + 16), .ref (a + 17), .ref (a + 18), .ref (a + 19), .null, .null]) rfl rfl fi_N ft_N ft_N_ok fn_N 23 (by decide) l_N_70 rfl rfl (t := (.array .long)) (by decide +kernel) rfl rfl (Nat.le_of_ble_eq_true rfl) d_N_init_226 (fun H locs hW => ?_)
  have hW : gw D rd_cl a 21 _ s.heap H _ := hW
  refine lv_aload_n hx hb d_N_init_229 rfl (lv_at hl 0 rfl) ?_
  refine lv_bipush (v := 50) hx hb d_N_init_230 (by decide) ?_
  refine g_newa (atype := .int) (N := 50) (a0 := (50, .inl (fun _ => 0))) C9 hW (by show s.heap.size + 20 = a + 21; omega) (fun h => absurd h (by decide)) ar_int (t0 := 0) rfl (by intro z h; cases h) (fun _ => rfl) (by decide) (by decide) (by decide) (Nat.le_of_ble_eq_true rfl) (Nat.le_of_ble_eq_true rfl) d_N_init_232 (fun H hW => ?_)
  have hW : gw D rd_cl a 22 _ s.heap H _ := hW
  refine g_putF hin C9 hW (k := 0) (by decide) (fs := [.int 0, .int 0, .ref (a + 1), .ref (a + 2), .ref (a + 3), .ref (a + 4), .ref (a + 5), .int 0, .ref (a + 6), .int 0, .ref (a + 7), .ref (a + 8), .ref (a + 9), .ref (a + 10), .ref (a + 11), .ref (a + 12), .ref (a + 13), .ref (a + 14), .ref (a + 15), .ref (a + 16), .ref (a + 17), .ref (a + 18), .ref (a + 19), .ref (a + 20), .null]) rfl rfl fi_N ft_N ft_N_ok fn_N 24 (by decide) l_N_73 rfl rfl (t := (.array .int)) (by decide +kernel) rfl rfl (Nat.le_of_ble_eq_true rfl) d_N_init_234 (fun H locs hW => ?_)
  have hW : gw D rd_cl a 22 _ s.heap H _ := hW
  refine g_ret C9 hlk hret hW (fun k hk => ?_) (by decide) (by decide) d_N_init_237
  match k, hk with
  | 0, _ => exact Or.inl rfl
  | 1, _ => exact Or.inl rfl
  | 2, _ => exact Or.inl rfl
  | 3, _ => exact Or.inl rfl
  | 4, _ => exact Or.inl rfl
  | 5, _ => exact Or.inl rfl
  | 6, _ => exact Or.inl rfl
  | 7, _ => exact Or.inl rfl
  | 8, _ => exact Or.inl rfl
  | 9, _ => exact Or.inl rfl
  | 10, _ => exact Or.inl rfl
  | 11, _ => exact Or.inl rfl
  | 12, _ => exact Or.inl rfl
  | 13, _ => exact Or.inl rfl
  | 14, _ => exact Or.inl rfl
  | 15, _ => exact Or.inl rfl
  | 16, _ => exact Or.inl rfl
  | 17, _ => exact Or.inl rfl
  | 18, _ => exact Or.inl rfl
  | 19, _ => exact Or.inl rfl
  | 20, _ => exact Or.inl rfl
  | 21, _ => exact Or.inl rfl
  | k + 22, h => exact absurd h (by omega)
