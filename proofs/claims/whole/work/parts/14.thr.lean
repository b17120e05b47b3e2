theorem in_IllegalStateException : Cond.initialized "java/lang/IllegalStateException" ∈ rd_T := List.mem_append_left _ (List.mem_of_getElem? (i := 60) rfl)
set_option maxRecDepth 100000 in
theorem ta_K_IllegalStateException : ∀ w ∈ Bundle.ownAtoms "RegistryDesk" 91 "java/lang/IllegalStateException" ["java/lang/RuntimeException", "java/lang/Exception"], rd_tw rd_T rd_ss.2.1 w := by unfold rd_tw; decide +kernel
theorem in_UnsupportedOperationException : Cond.initialized "java/lang/UnsupportedOperationException" ∈ rd_T := List.mem_append_left _ (List.mem_of_getElem? (i := 62) rfl)
set_option maxRecDepth 100000 in
theorem ta_K_UnsupportedOperationException : ∀ w ∈ Bundle.ownAtoms "RegistryDesk" 192 "java/lang/UnsupportedOperationException" ["java/lang/RuntimeException", "java/lang/Exception"], rd_tw rd_T rd_ss.2.1 w := by unfold rd_tw; decide +kernel
theorem in_NoSuchElementException : Cond.initialized "java/util/NoSuchElementException" ∈ rd_T := List.mem_append_left _ (List.mem_of_getElem? (i := 61) rfl)
set_option maxRecDepth 100000 in
theorem ta_K_NoSuchElementException : ∀ w ∈ rd_aX "RegistryDesk" 206 "java/util/NoSuchElementException" 13 prog_16_method_4_code "java/lang/RuntimeException" ["java/lang/Exception"], rd_tw rd_T rd_ss.2.1 w := by unfold rd_tw; decide +kernel
theorem dn_0 : decode prog_16_method_4_code 0 = .ok (.aload_n 0, 1) := by decide +kernel
theorem dn_1 : decode prog_16_method_4_code 1 = .ok (.aload_n 1, 1) := by decide +kernel
theorem dn_2 : decode prog_16_method_4_code 2 = .ok (.invokespecial 13, 3) := by decide +kernel
theorem dn_5 : decode prog_16_method_4_code 5 = .ok (.return_, 1) := by decide +kernel
theorem in_IllegalArgumentException : Cond.initialized "java/lang/IllegalArgumentException" ∈ rd_T := List.mem_append_left _ (List.mem_of_getElem? (i := 59) rfl)
set_option maxRecDepth 100000 in
theorem ta_K_IllegalArgumentException : ∀ w ∈ Bundle.ownAtoms "RegistryDesk" 276 "java/lang/IllegalArgumentException" ["java/lang/RuntimeException", "java/lang/Exception"], rd_tw rd_T rd_ss.2.1 w := by unfold rd_tw; decide +kernel
