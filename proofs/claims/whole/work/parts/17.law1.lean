def y_W_price : MethodName := ⟨"RegistryDeskLaw", "price", "(LRegistryDesk;ID[J)I"⟩
abbrev b_W_price : ByteArray := method_3_code
theorem ki_W_price : Cond.static y_W_price ∈ rd_T := List.mem_append_right _ (List.mem_append_right _ (List.mem_append_right _ (List.mem_append_right _ (List.mem_append_left _ (List.mem_of_getElem? (i := 13) rfl)))))
def y_W_deposit : MethodName := ⟨"RegistryDeskLaw", "deposit", "(LRegistryDesk;ID[D)I"⟩
abbrev b_W_deposit : ByteArray := method_4_code
theorem ki_W_deposit : Cond.static y_W_deposit ∈ rd_T := List.mem_append_right _ (List.mem_append_right _ (List.mem_append_right _ (List.mem_append_right _ (List.mem_append_right _ (List.mem_append_left _ (List.mem_of_getElem? (i := 24) rfl))))))
def y_W_contact : MethodName := ⟨"RegistryDeskLaw", "contact", "(LRegistryDesk;I[J)I"⟩
abbrev b_W_contact : ByteArray := method_5_code
theorem ki_W_contact : Cond.static y_W_contact ∈ rd_T := List.mem_append_right _ (List.mem_append_right _ (List.mem_append_right _ (List.mem_append_right _ (List.mem_append_right _ (List.mem_append_left _ (List.mem_of_getElem? (i := 37) rfl))))))
def y_W_host : MethodName := ⟨"RegistryDeskLaw", "host", "(LRegistryDesk;III[J)I"⟩
abbrev b_W_host : ByteArray := method_6_code
theorem ki_W_host : Cond.static y_W_host ∈ rd_T := List.mem_append_right _ (List.mem_append_right _ (List.mem_append_right _ (List.mem_append_right _ (List.mem_append_right _ (List.mem_append_right _ (List.mem_append_left _ (List.mem_of_getElem? (i := 1) rfl)))))))
def y_W_remove : MethodName := ⟨"RegistryDeskLaw", "remove", "(LRegistryDesk;III[J)I"⟩
abbrev b_W_remove : ByteArray := method_7_code
theorem ki_W_remove : Cond.static y_W_remove ∈ rd_T := List.mem_append_right _ (List.mem_append_right _ (List.mem_append_right _ (List.mem_append_right _ (List.mem_append_right _ (List.mem_append_right _ (List.mem_append_left _ (List.mem_of_getElem? (i := 42) rfl)))))))
def y_W_create : MethodName := ⟨"RegistryDeskLaw", "create", "(LRegistryDesk;IIIII[J)I"⟩
abbrev b_W_create : ByteArray := method_8_code
theorem ki_W_create : Cond.static y_W_create ∈ rd_T := List.mem_append_right _ (List.mem_append_right _ (List.mem_append_right _ (List.mem_append_right _ (List.mem_append_right _ (List.mem_append_right _ (List.mem_append_left _ (List.mem_of_getElem? (i := 53) rfl)))))))
def y_W_change : MethodName := ⟨"RegistryDeskLaw", "change", "(LRegistryDesk;IIIIZ[J)I"⟩
abbrev b_W_change : ByteArray := method_9_code
theorem ki_W_change : Cond.static y_W_change ∈ rd_T := List.mem_append_right _ (List.mem_append_right _ (List.mem_append_right _ (List.mem_append_right _ (List.mem_append_right _ (List.mem_append_right _ (List.mem_append_right _ (List.mem_append_left _ (List.mem_of_getElem? (i := 35) rfl))))))))
def y_W_lock : MethodName := ⟨"RegistryDeskLaw", "lock", "(LRegistryDesk;III[J)I"⟩
abbrev b_W_lock : ByteArray := method_10_code
theorem ki_W_lock : Cond.static y_W_lock ∈ rd_T := List.mem_append_right _ (List.mem_append_right _ (List.mem_append_right _ (List.mem_append_right _ (List.mem_append_right _ (List.mem_append_right _ (List.mem_append_right _ (List.mem_append_left _ (List.mem_of_getElem? (i := 61) rfl))))))))
def y_W_renew : MethodName := ⟨"RegistryDeskLaw", "renew", "(LRegistryDesk;III[J)I"⟩
abbrev b_W_renew : ByteArray := method_11_code
theorem ki_W_renew : Cond.static y_W_renew ∈ rd_T := List.mem_append_right _ (List.mem_append_right _ (List.mem_append_right _ (List.mem_append_right _ (List.mem_append_right _ (List.mem_append_right _ (List.mem_append_right _ (List.mem_append_right _ (List.mem_append_left _ (List.mem_of_getElem? (i := 4) rfl)))))))))
def y_W_delete : MethodName := ⟨"RegistryDeskLaw", "delete", "(LRegistryDesk;II[J)I"⟩
abbrev b_W_delete : ByteArray := method_12_code
theorem ki_W_delete : Cond.static y_W_delete ∈ rd_T := List.mem_append_right _ (List.mem_append_right _ (List.mem_append_right _ (List.mem_append_right _ (List.mem_append_right _ (List.mem_append_right _ (List.mem_append_right _ (List.mem_append_right _ (List.mem_append_left _ (List.mem_of_getElem? (i := 14) rfl)))))))))
def y_W_restore : MethodName := ⟨"RegistryDeskLaw", "restore", "(LRegistryDesk;II[J)I"⟩
abbrev b_W_restore : ByteArray := method_13_code
theorem ki_W_restore : Cond.static y_W_restore ∈ rd_T := List.mem_append_right _ (List.mem_append_right _ (List.mem_append_right _ (List.mem_append_right _ (List.mem_append_right _ (List.mem_append_right _ (List.mem_append_right _ (List.mem_append_right _ (List.mem_append_left _ (List.mem_of_getElem? (i := 41) rfl)))))))))
def y_W_ask : MethodName := ⟨"RegistryDeskLaw", "ask", "(LRegistryDesk;III[J)I"⟩
abbrev b_W_ask : ByteArray := method_14_code
theorem ki_W_ask : Cond.static y_W_ask ∈ rd_T := List.mem_append_right _ (List.mem_append_right _ (List.mem_append_right _ (List.mem_append_right _ (List.mem_append_right _ (List.mem_append_right _ (List.mem_append_right _ (List.mem_append_right _ (List.mem_append_left _ (List.mem_of_getElem? (i := 48) rfl)))))))))
def y_W_answer : MethodName := ⟨"RegistryDeskLaw", "answer", "(LRegistryDesk;IIZ[J)I"⟩
abbrev b_W_answer : ByteArray := method_15_code
theorem ki_W_answer : Cond.static y_W_answer ∈ rd_T := List.mem_append_right _ (List.mem_append_right _ (List.mem_append_right _ (List.mem_append_right _ (List.mem_append_right _ (List.mem_append_right _ (List.mem_append_right _ (List.mem_append_right _ (List.mem_append_left _ (List.mem_of_getElem? (i := 63) rfl)))))))))
def y_W_pass : MethodName := ⟨"RegistryDeskLaw", "pass", "(LRegistryDesk;I[J)I"⟩
abbrev b_W_pass : ByteArray := method_16_code
theorem ki_W_pass : Cond.static y_W_pass ∈ rd_T := List.mem_append_right _ (List.mem_append_right _ (List.mem_append_right _ (List.mem_append_right _ (List.mem_append_right _ (List.mem_append_right _ (List.mem_append_right _ (List.mem_append_right _ (List.mem_append_right _ (List.mem_append_left _ (List.mem_of_getElem? (i := 17) rfl))))))))))
def y_W_message : MethodName := ⟨"RegistryDeskLaw", "message", "(LRegistryDesk;I[J)I"⟩
abbrev b_W_message : ByteArray := method_17_code
theorem ki_W_message : Cond.static y_W_message ∈ rd_T := List.mem_append_right _ (List.mem_append_right _ (List.mem_append_right _ (List.mem_append_right _ (List.mem_append_right _ (List.mem_append_right _ (List.mem_append_right _ (List.mem_append_right _ (List.mem_append_right _ (List.mem_append_left _ (List.mem_of_getElem? (i := 36) rfl))))))))))
def y_W_acknowledge : MethodName := ⟨"RegistryDeskLaw", "acknowledge", "(LRegistryDesk;I[J)I"⟩
abbrev b_W_acknowledge : ByteArray := method_18_code
theorem ki_W_acknowledge : Cond.static y_W_acknowledge ∈ rd_T := List.mem_append_right _ (List.mem_append_right _ (List.mem_append_right _ (List.mem_append_right _ (List.mem_append_right _ (List.mem_append_right _ (List.mem_append_right _ (List.mem_append_right _ (List.mem_append_right _ (List.mem_append_left _ (List.mem_of_getElem? (i := 46) rfl))))))))))
def y_W_balance : MethodName := ⟨"RegistryDeskLaw", "balance", "(LRegistryDesk;I[D)I"⟩
abbrev b_W_balance : ByteArray := method_19_code
theorem ki_W_balance : Cond.static y_W_balance ∈ rd_T := List.mem_append_right _ (List.mem_append_right _ (List.mem_append_right _ (List.mem_append_right _ (List.mem_append_right _ (List.mem_append_right _ (List.mem_append_right _ (List.mem_append_right _ (List.mem_append_right _ (List.mem_append_left _ (List.mem_of_getElem? (i := 54) rfl))))))))))
def y_W_paid : MethodName := ⟨"RegistryDeskLaw", "paid", "(LRegistryDesk;II[D)I"⟩
abbrev b_W_paid : ByteArray := method_20_code
theorem ki_W_paid : Cond.static y_W_paid ∈ rd_T := List.mem_append_right _ (List.mem_append_right _ (List.mem_append_right _ (List.mem_append_right _ (List.mem_append_right _ (List.mem_append_right _ (List.mem_append_right _ (List.mem_append_right _ (List.mem_append_right _ (List.mem_append_left _ (List.mem_of_getElem? (i := 61) rfl))))))))))
def y_W_domain : MethodName := ⟨"RegistryDeskLaw", "domain", "(LRegistryDesk;II[J)I"⟩
abbrev b_W_domain : ByteArray := method_21_code
theorem ki_W_domain : Cond.static y_W_domain ∈ rd_T := List.mem_append_right _ (List.mem_append_right _ (List.mem_append_right _ (List.mem_append_right _ (List.mem_append_right _ (List.mem_append_right _ (List.mem_append_right _ (List.mem_append_right _ (List.mem_append_right _ (List.mem_append_right _ (List.mem_append_left _ (List.mem_of_getElem? (i := 4) rfl)))))))))))
def y_W_thing : MethodName := ⟨"RegistryDeskLaw", "thing", "(LRegistryDesk;II[J)I"⟩
abbrev b_W_thing : ByteArray := method_22_code
theorem ki_W_thing : Cond.static y_W_thing ∈ rd_T := List.mem_append_right _ (List.mem_append_right _ (List.mem_append_right _ (List.mem_append_right _ (List.mem_append_right _ (List.mem_append_right _ (List.mem_append_right _ (List.mem_append_right _ (List.mem_append_right _ (List.mem_append_right _ (List.mem_append_left _ (List.mem_of_getElem? (i := 19) rfl)))))))))))
def y_W_zone : MethodName := ⟨"RegistryDeskLaw", "zone", "(LRegistryDesk;I[J)I"⟩
abbrev b_W_zone : ByteArray := method_23_code
theorem ki_W_zone : Cond.static y_W_zone ∈ rd_T := List.mem_append_right _ (List.mem_append_right _ (List.mem_append_right _ (List.mem_append_right _ (List.mem_append_right _ (List.mem_append_right _ (List.mem_append_right _ (List.mem_append_right _ (List.mem_append_right _ (List.mem_append_right _ (List.mem_append_left _ (List.mem_of_getElem? (i := 26) rfl)))))))))))
theorem kc_W_price : Cond.codeWith y_W_price b_W_price 6 (some .int) [(0, 11, 14, 13), (0, 11, 18, 15), (0, 11, 22, 17), (0, 11, 26, 19)] ∈ rd_T ∧ Cond.initialized y_W_price.cls ∈ rd_T ∧ (y_W_price.cls ≠ "java/lang/invoke/MethodHandle" ∧ y_W_price.cls ≠ "java/lang/invoke/VarHandle") ∧ (parseMethodDescriptor y_W_price.desc).map (fun d => d.parameters.length) = some 4 := ⟨List.mem_append_right _ (List.mem_append_right _ (List.mem_append_right _ (List.mem_append_right _ (List.mem_append_left _ (List.mem_of_getElem? (i := 14) rfl))))), List.mem_append_left _ (List.mem_of_getElem? (i := 48) rfl), by decide, by decide⟩
theorem kc_W_deposit : Cond.codeWith y_W_deposit b_W_deposit 6 (some .int) [(0, 10, 13, 13), (0, 10, 17, 15), (0, 10, 21, 17), (0, 10, 25, 19)] ∈ rd_T ∧ Cond.initialized y_W_deposit.cls ∈ rd_T ∧ (y_W_deposit.cls ≠ "java/lang/invoke/MethodHandle" ∧ y_W_deposit.cls ≠ "java/lang/invoke/VarHandle") ∧ (parseMethodDescriptor y_W_deposit.desc).map (fun d => d.parameters.length) = some 4 := ⟨List.mem_append_right _ (List.mem_append_right _ (List.mem_append_right _ (List.mem_append_right _ (List.mem_append_right _ (List.mem_append_left _ (List.mem_of_getElem? (i := 25) rfl)))))), List.mem_append_left _ (List.mem_of_getElem? (i := 48) rfl), by decide, by decide⟩
theorem kc_W_contact : Cond.codeWith y_W_contact b_W_contact 4 (some .int) [(0, 9, 12, 13), (0, 9, 15, 15), (0, 9, 18, 17), (0, 9, 21, 19)] ∈ rd_T ∧ Cond.initialized y_W_contact.cls ∈ rd_T ∧ (y_W_contact.cls ≠ "java/lang/invoke/MethodHandle" ∧ y_W_contact.cls ≠ "java/lang/invoke/VarHandle") ∧ (parseMethodDescriptor y_W_contact.desc).map (fun d => d.parameters.length) = some 3 := ⟨List.mem_append_right _ (List.mem_append_right _ (List.mem_append_right _ (List.mem_append_right _ (List.mem_append_right _ (List.mem_append_left _ (List.mem_of_getElem? (i := 38) rfl)))))), List.mem_append_left _ (List.mem_of_getElem? (i := 48) rfl), by decide, by decide⟩
theorem kc_W_host : Cond.codeWith y_W_host b_W_host 6 (some .int) [(0, 12, 15, 13), (0, 12, 19, 15), (0, 12, 23, 17), (0, 12, 27, 19)] ∈ rd_T ∧ Cond.initialized y_W_host.cls ∈ rd_T ∧ (y_W_host.cls ≠ "java/lang/invoke/MethodHandle" ∧ y_W_host.cls ≠ "java/lang/invoke/VarHandle") ∧ (parseMethodDescriptor y_W_host.desc).map (fun d => d.parameters.length) = some 5 := ⟨List.mem_append_right _ (List.mem_append_right _ (List.mem_append_right _ (List.mem_append_right _ (List.mem_append_right _ (List.mem_append_right _ (List.mem_append_left _ (List.mem_of_getElem? (i := 2) rfl))))))), List.mem_append_left _ (List.mem_of_getElem? (i := 48) rfl), by decide, by decide⟩
theorem kc_W_remove : Cond.codeWith y_W_remove b_W_remove 6 (some .int) [(0, 12, 15, 13), (0, 12, 19, 15), (0, 12, 23, 17), (0, 12, 27, 19)] ∈ rd_T ∧ Cond.initialized y_W_remove.cls ∈ rd_T ∧ (y_W_remove.cls ≠ "java/lang/invoke/MethodHandle" ∧ y_W_remove.cls ≠ "java/lang/invoke/VarHandle") ∧ (parseMethodDescriptor y_W_remove.desc).map (fun d => d.parameters.length) = some 5 := ⟨List.mem_append_right _ (List.mem_append_right _ (List.mem_append_right _ (List.mem_append_right _ (List.mem_append_right _ (List.mem_append_right _ (List.mem_append_left _ (List.mem_of_getElem? (i := 43) rfl))))))), List.mem_append_left _ (List.mem_of_getElem? (i := 48) rfl), by decide, by decide⟩
theorem kc_W_create : Cond.codeWith y_W_create b_W_create 8 (some .int) [(0, 16, 19, 13), (0, 16, 23, 15), (0, 16, 27, 17), (0, 16, 31, 19)] ∈ rd_T ∧ Cond.initialized y_W_create.cls ∈ rd_T ∧ (y_W_create.cls ≠ "java/lang/invoke/MethodHandle" ∧ y_W_create.cls ≠ "java/lang/invoke/VarHandle") ∧ (parseMethodDescriptor y_W_create.desc).map (fun d => d.parameters.length) = some 7 := ⟨List.mem_append_right _ (List.mem_append_right _ (List.mem_append_right _ (List.mem_append_right _ (List.mem_append_right _ (List.mem_append_right _ (List.mem_append_left _ (List.mem_of_getElem? (i := 54) rfl))))))), List.mem_append_left _ (List.mem_of_getElem? (i := 48) rfl), by decide, by decide⟩
theorem kc_W_change : Cond.codeWith y_W_change b_W_change 8 (some .int) [(0, 16, 19, 13), (0, 16, 23, 15), (0, 16, 27, 17), (0, 16, 31, 19)] ∈ rd_T ∧ Cond.initialized y_W_change.cls ∈ rd_T ∧ (y_W_change.cls ≠ "java/lang/invoke/MethodHandle" ∧ y_W_change.cls ≠ "java/lang/invoke/VarHandle") ∧ (parseMethodDescriptor y_W_change.desc).map (fun d => d.parameters.length) = some 7 := ⟨List.mem_append_right _ (List.mem_append_right _ (List.mem_append_right _ (List.mem_append_right _ (List.mem_append_right _ (List.mem_append_right _ (List.mem_append_right _ (List.mem_append_left _ (List.mem_of_getElem? (i := 36) rfl)))))))), List.mem_append_left _ (List.mem_of_getElem? (i := 48) rfl), by decide, by decide⟩
theorem kc_W_lock : Cond.codeWith y_W_lock b_W_lock 6 (some .int) [(0, 12, 15, 13), (0, 12, 19, 15), (0, 12, 23, 17), (0, 12, 27, 19)] ∈ rd_T ∧ Cond.initialized y_W_lock.cls ∈ rd_T ∧ (y_W_lock.cls ≠ "java/lang/invoke/MethodHandle" ∧ y_W_lock.cls ≠ "java/lang/invoke/VarHandle") ∧ (parseMethodDescriptor y_W_lock.desc).map (fun d => d.parameters.length) = some 5 := ⟨List.mem_append_right _ (List.mem_append_right _ (List.mem_append_right _ (List.mem_append_right _ (List.mem_append_right _ (List.mem_append_right _ (List.mem_append_right _ (List.mem_append_left _ (List.mem_of_getElem? (i := 62) rfl)))))))), List.mem_append_left _ (List.mem_of_getElem? (i := 48) rfl), by decide, by decide⟩
theorem kc_W_renew : Cond.codeWith y_W_renew b_W_renew 6 (some .int) [(0, 12, 15, 13), (0, 12, 19, 15), (0, 12, 23, 17), (0, 12, 27, 19)] ∈ rd_T ∧ Cond.initialized y_W_renew.cls ∈ rd_T ∧ (y_W_renew.cls ≠ "java/lang/invoke/MethodHandle" ∧ y_W_renew.cls ≠ "java/lang/invoke/VarHandle") ∧ (parseMethodDescriptor y_W_renew.desc).map (fun d => d.parameters.length) = some 5 := ⟨List.mem_append_right _ (List.mem_append_right _ (List.mem_append_right _ (List.mem_append_right _ (List.mem_append_right _ (List.mem_append_right _ (List.mem_append_right _ (List.mem_append_right _ (List.mem_append_left _ (List.mem_of_getElem? (i := 5) rfl))))))))), List.mem_append_left _ (List.mem_of_getElem? (i := 48) rfl), by decide, by decide⟩
theorem kc_W_delete : Cond.codeWith y_W_delete b_W_delete 5 (some .int) [(0, 10, 13, 13), (0, 10, 17, 15), (0, 10, 21, 17), (0, 10, 25, 19)] ∈ rd_T ∧ Cond.initialized y_W_delete.cls ∈ rd_T ∧ (y_W_delete.cls ≠ "java/lang/invoke/MethodHandle" ∧ y_W_delete.cls ≠ "java/lang/invoke/VarHandle") ∧ (parseMethodDescriptor y_W_delete.desc).map (fun d => d.parameters.length) = some 4 := ⟨List.mem_append_right _ (List.mem_append_right _ (List.mem_append_right _ (List.mem_append_right _ (List.mem_append_right _ (List.mem_append_right _ (List.mem_append_right _ (List.mem_append_right _ (List.mem_append_left _ (List.mem_of_getElem? (i := 15) rfl))))))))), List.mem_append_left _ (List.mem_of_getElem? (i := 48) rfl), by decide, by decide⟩
theorem kc_W_restore : Cond.codeWith y_W_restore b_W_restore 5 (some .int) [(0, 10, 13, 13), (0, 10, 17, 15), (0, 10, 21, 17), (0, 10, 25, 19)] ∈ rd_T ∧ Cond.initialized y_W_restore.cls ∈ rd_T ∧ (y_W_restore.cls ≠ "java/lang/invoke/MethodHandle" ∧ y_W_restore.cls ≠ "java/lang/invoke/VarHandle") ∧ (parseMethodDescriptor y_W_restore.desc).map (fun d => d.parameters.length) = some 4 := ⟨List.mem_append_right _ (List.mem_append_right _ (List.mem_append_right _ (List.mem_append_right _ (List.mem_append_right _ (List.mem_append_right _ (List.mem_append_right _ (List.mem_append_right _ (List.mem_append_left _ (List.mem_of_getElem? (i := 42) rfl))))))))), List.mem_append_left _ (List.mem_of_getElem? (i := 48) rfl), by decide, by decide⟩
theorem kc_W_ask : Cond.codeWith y_W_ask b_W_ask 6 (some .int) [(0, 12, 15, 13), (0, 12, 19, 15), (0, 12, 23, 17), (0, 12, 27, 19)] ∈ rd_T ∧ Cond.initialized y_W_ask.cls ∈ rd_T ∧ (y_W_ask.cls ≠ "java/lang/invoke/MethodHandle" ∧ y_W_ask.cls ≠ "java/lang/invoke/VarHandle") ∧ (parseMethodDescriptor y_W_ask.desc).map (fun d => d.parameters.length) = some 5 := ⟨List.mem_append_right _ (List.mem_append_right _ (List.mem_append_right _ (List.mem_append_right _ (List.mem_append_right _ (List.mem_append_right _ (List.mem_append_right _ (List.mem_append_right _ (List.mem_append_left _ (List.mem_of_getElem? (i := 49) rfl))))))))), List.mem_append_left _ (List.mem_of_getElem? (i := 48) rfl), by decide, by decide⟩
theorem kc_W_answer : Cond.codeWith y_W_answer b_W_answer 6 (some .int) [(0, 12, 15, 13), (0, 12, 19, 15), (0, 12, 23, 17), (0, 12, 27, 19)] ∈ rd_T ∧ Cond.initialized y_W_answer.cls ∈ rd_T ∧ (y_W_answer.cls ≠ "java/lang/invoke/MethodHandle" ∧ y_W_answer.cls ≠ "java/lang/invoke/VarHandle") ∧ (parseMethodDescriptor y_W_answer.desc).map (fun d => d.parameters.length) = some 5 := ⟨List.mem_append_right _ (List.mem_append_right _ (List.mem_append_right _ (List.mem_append_right _ (List.mem_append_right _ (List.mem_append_right _ (List.mem_append_right _ (List.mem_append_right _ (List.mem_append_right _ (List.mem_append_left _ (List.mem_of_getElem? (i := 0) rfl)))))))))), List.mem_append_left _ (List.mem_of_getElem? (i := 48) rfl), by decide, by decide⟩
theorem kc_W_pass : Cond.codeWith y_W_pass b_W_pass 4 (some .int) [(0, 9, 12, 13), (0, 9, 15, 15), (0, 9, 18, 17), (0, 9, 21, 19)] ∈ rd_T ∧ Cond.initialized y_W_pass.cls ∈ rd_T ∧ (y_W_pass.cls ≠ "java/lang/invoke/MethodHandle" ∧ y_W_pass.cls ≠ "java/lang/invoke/VarHandle") ∧ (parseMethodDescriptor y_W_pass.desc).map (fun d => d.parameters.length) = some 3 := ⟨List.mem_append_right _ (List.mem_append_right _ (List.mem_append_right _ (List.mem_append_right _ (List.mem_append_right _ (List.mem_append_right _ (List.mem_append_right _ (List.mem_append_right _ (List.mem_append_right _ (List.mem_append_left _ (List.mem_of_getElem? (i := 18) rfl)))))))))), List.mem_append_left _ (List.mem_of_getElem? (i := 48) rfl), by decide, by decide⟩
theorem kc_W_message : Cond.codeWith y_W_message b_W_message 4 (some .int) [(0, 9, 12, 13), (0, 9, 15, 15), (0, 9, 18, 17), (0, 9, 21, 19)] ∈ rd_T ∧ Cond.initialized y_W_message.cls ∈ rd_T ∧ (y_W_message.cls ≠ "java/lang/invoke/MethodHandle" ∧ y_W_message.cls ≠ "java/lang/invoke/VarHandle") ∧ (parseMethodDescriptor y_W_message.desc).map (fun d => d.parameters.length) = some 3 := ⟨List.mem_append_right _ (List.mem_append_right _ (List.mem_append_right _ (List.mem_append_right _ (List.mem_append_right _ (List.mem_append_right _ (List.mem_append_right _ (List.mem_append_right _ (List.mem_append_right _ (List.mem_append_left _ (List.mem_of_getElem? (i := 37) rfl)))))))))), List.mem_append_left _ (List.mem_of_getElem? (i := 48) rfl), by decide, by decide⟩
theorem kc_W_acknowledge : Cond.codeWith y_W_acknowledge b_W_acknowledge 4 (some .int) [(0, 9, 12, 13), (0, 9, 15, 15), (0, 9, 18, 17), (0, 9, 21, 19)] ∈ rd_T ∧ Cond.initialized y_W_acknowledge.cls ∈ rd_T ∧ (y_W_acknowledge.cls ≠ "java/lang/invoke/MethodHandle" ∧ y_W_acknowledge.cls ≠ "java/lang/invoke/VarHandle") ∧ (parseMethodDescriptor y_W_acknowledge.desc).map (fun d => d.parameters.length) = some 3 := ⟨List.mem_append_right _ (List.mem_append_right _ (List.mem_append_right _ (List.mem_append_right _ (List.mem_append_right _ (List.mem_append_right _ (List.mem_append_right _ (List.mem_append_right _ (List.mem_append_right _ (List.mem_append_left _ (List.mem_of_getElem? (i := 47) rfl)))))))))), List.mem_append_left _ (List.mem_of_getElem? (i := 48) rfl), by decide, by decide⟩
theorem kc_W_balance : Cond.codeWith y_W_balance b_W_balance 4 (some .int) [(0, 8, 11, 13), (0, 8, 14, 15), (0, 8, 17, 17), (0, 8, 20, 19)] ∈ rd_T ∧ Cond.initialized y_W_balance.cls ∈ rd_T ∧ (y_W_balance.cls ≠ "java/lang/invoke/MethodHandle" ∧ y_W_balance.cls ≠ "java/lang/invoke/VarHandle") ∧ (parseMethodDescriptor y_W_balance.desc).map (fun d => d.parameters.length) = some 3 := ⟨List.mem_append_right _ (List.mem_append_right _ (List.mem_append_right _ (List.mem_append_right _ (List.mem_append_right _ (List.mem_append_right _ (List.mem_append_right _ (List.mem_append_right _ (List.mem_append_right _ (List.mem_append_left _ (List.mem_of_getElem? (i := 55) rfl)))))))))), List.mem_append_left _ (List.mem_of_getElem? (i := 48) rfl), by decide, by decide⟩
theorem kc_W_paid : Cond.codeWith y_W_paid b_W_paid 5 (some .int) [(0, 9, 12, 13), (0, 9, 16, 15), (0, 9, 20, 17), (0, 9, 24, 19)] ∈ rd_T ∧ Cond.initialized y_W_paid.cls ∈ rd_T ∧ (y_W_paid.cls ≠ "java/lang/invoke/MethodHandle" ∧ y_W_paid.cls ≠ "java/lang/invoke/VarHandle") ∧ (parseMethodDescriptor y_W_paid.desc).map (fun d => d.parameters.length) = some 4 := ⟨List.mem_append_right _ (List.mem_append_right _ (List.mem_append_right _ (List.mem_append_right _ (List.mem_append_right _ (List.mem_append_right _ (List.mem_append_right _ (List.mem_append_right _ (List.mem_append_right _ (List.mem_append_left _ (List.mem_of_getElem? (i := 62) rfl)))))))))), List.mem_append_left _ (List.mem_of_getElem? (i := 48) rfl), by decide, by decide⟩
theorem kc_W_domain : Cond.codeWith y_W_domain b_W_domain 5 (some .int) [(0, 10, 13, 13), (0, 10, 17, 15), (0, 10, 21, 17), (0, 10, 25, 19)] ∈ rd_T ∧ Cond.initialized y_W_domain.cls ∈ rd_T ∧ (y_W_domain.cls ≠ "java/lang/invoke/MethodHandle" ∧ y_W_domain.cls ≠ "java/lang/invoke/VarHandle") ∧ (parseMethodDescriptor y_W_domain.desc).map (fun d => d.parameters.length) = some 4 := ⟨List.mem_append_right _ (List.mem_append_right _ (List.mem_append_right _ (List.mem_append_right _ (List.mem_append_right _ (List.mem_append_right _ (List.mem_append_right _ (List.mem_append_right _ (List.mem_append_right _ (List.mem_append_right _ (List.mem_append_left _ (List.mem_of_getElem? (i := 5) rfl))))))))))), List.mem_append_left _ (List.mem_of_getElem? (i := 48) rfl), by decide, by decide⟩
theorem kc_W_thing : Cond.codeWith y_W_thing b_W_thing 5 (some .int) [(0, 10, 13, 13), (0, 10, 17, 15), (0, 10, 21, 17), (0, 10, 25, 19)] ∈ rd_T ∧ Cond.initialized y_W_thing.cls ∈ rd_T ∧ (y_W_thing.cls ≠ "java/lang/invoke/MethodHandle" ∧ y_W_thing.cls ≠ "java/lang/invoke/VarHandle") ∧ (parseMethodDescriptor y_W_thing.desc).map (fun d => d.parameters.length) = some 4 := ⟨List.mem_append_right _ (List.mem_append_right _ (List.mem_append_right _ (List.mem_append_right _ (List.mem_append_right _ (List.mem_append_right _ (List.mem_append_right _ (List.mem_append_right _ (List.mem_append_right _ (List.mem_append_right _ (List.mem_append_left _ (List.mem_of_getElem? (i := 20) rfl))))))))))), List.mem_append_left _ (List.mem_of_getElem? (i := 48) rfl), by decide, by decide⟩
theorem kc_W_zone : Cond.codeWith y_W_zone b_W_zone 4 (some .int) [(0, 9, 12, 13), (0, 9, 15, 15), (0, 9, 18, 17), (0, 9, 21, 19)] ∈ rd_T ∧ Cond.initialized y_W_zone.cls ∈ rd_T ∧ (y_W_zone.cls ≠ "java/lang/invoke/MethodHandle" ∧ y_W_zone.cls ≠ "java/lang/invoke/VarHandle") ∧ (parseMethodDescriptor y_W_zone.desc).map (fun d => d.parameters.length) = some 3 := ⟨List.mem_append_right _ (List.mem_append_right _ (List.mem_append_right _ (List.mem_append_right _ (List.mem_append_right _ (List.mem_append_right _ (List.mem_append_right _ (List.mem_append_right _ (List.mem_append_right _ (List.mem_append_right _ (List.mem_append_left _ (List.mem_of_getElem? (i := 27) rfl))))))))))), List.mem_append_left _ (List.mem_of_getElem? (i := 48) rfl), by decide, by decide⟩
theorem d_W_price_0 : decode b_W_price 0 = .ok (.aload 4, 2) := by decide +kernel
theorem d_W_price_2 : decode b_W_price 2 = .ok (.iconst 0, 1) := by decide +kernel
theorem d_W_price_3 : decode b_W_price 3 = .ok (.aload_n 0, 1) := by decide +kernel
theorem d_W_price_4 : decode b_W_price 4 = .ok (.iload_n 1, 1) := by decide +kernel
theorem d_W_price_5 : decode b_W_price 5 = .ok (.dload_n 2, 1) := by decide +kernel
theorem d_W_price_6 : decode b_W_price 6 = .ok (.invokevirtual 7, 3) := by decide +kernel
theorem d_W_price_9 : decode b_W_price 9 = .ok (.i2l, 1) := by decide +kernel
theorem d_W_price_10 : decode b_W_price 10 = .ok (.lastore, 1) := by decide +kernel
theorem d_W_price_11 : decode b_W_price 11 = .ok (.goto 19, 3) := by decide +kernel
theorem d_W_price_14 : decode b_W_price 14 = .ok (.astore 5, 2) := by decide +kernel
theorem d_W_price_16 : decode b_W_price 16 = .ok (.iconst 1, 1) := by decide +kernel
theorem d_W_price_17 : decode b_W_price 17 = .ok (.ireturn, 1) := by decide +kernel
theorem d_W_price_18 : decode b_W_price 18 = .ok (.astore 5, 2) := by decide +kernel
theorem d_W_price_20 : decode b_W_price 20 = .ok (.iconst 2, 1) := by decide +kernel
theorem d_W_price_21 : decode b_W_price 21 = .ok (.ireturn, 1) := by decide +kernel
theorem d_W_price_22 : decode b_W_price 22 = .ok (.astore 5, 2) := by decide +kernel
theorem d_W_price_24 : decode b_W_price 24 = .ok (.iconst 3, 1) := by decide +kernel
theorem d_W_price_25 : decode b_W_price 25 = .ok (.ireturn, 1) := by decide +kernel
theorem d_W_price_26 : decode b_W_price 26 = .ok (.astore 5, 2) := by decide +kernel
theorem d_W_price_28 : decode b_W_price 28 = .ok (.iconst 4, 1) := by decide +kernel
theorem d_W_price_29 : decode b_W_price 29 = .ok (.ireturn, 1) := by decide +kernel
theorem d_W_price_30 : decode b_W_price 30 = .ok (.iconst 0, 1) := by decide +kernel
theorem d_W_price_31 : decode b_W_price 31 = .ok (.ireturn, 1) := by decide +kernel
theorem d_W_deposit_0 : decode b_W_deposit 0 = .ok (.aload 4, 2) := by decide +kernel
theorem d_W_deposit_2 : decode b_W_deposit 2 = .ok (.iconst 0, 1) := by decide +kernel
theorem d_W_deposit_3 : decode b_W_deposit 3 = .ok (.aload_n 0, 1) := by decide +kernel
theorem d_W_deposit_4 : decode b_W_deposit 4 = .ok (.iload_n 1, 1) := by decide +kernel
theorem d_W_deposit_5 : decode b_W_deposit 5 = .ok (.dload_n 2, 1) := by decide +kernel
theorem d_W_deposit_6 : decode b_W_deposit 6 = .ok (.invokevirtual 21, 3) := by decide +kernel
theorem d_W_deposit_9 : decode b_W_deposit 9 = .ok (.dastore, 1) := by decide +kernel
theorem d_W_deposit_10 : decode b_W_deposit 10 = .ok (.goto 19, 3) := by decide +kernel
theorem d_W_deposit_13 : decode b_W_deposit 13 = .ok (.astore 5, 2) := by decide +kernel
theorem d_W_deposit_15 : decode b_W_deposit 15 = .ok (.iconst 1, 1) := by decide +kernel
theorem d_W_deposit_16 : decode b_W_deposit 16 = .ok (.ireturn, 1) := by decide +kernel
theorem d_W_deposit_17 : decode b_W_deposit 17 = .ok (.astore 5, 2) := by decide +kernel
theorem d_W_deposit_19 : decode b_W_deposit 19 = .ok (.iconst 2, 1) := by decide +kernel
theorem d_W_deposit_20 : decode b_W_deposit 20 = .ok (.ireturn, 1) := by decide +kernel
theorem d_W_deposit_21 : decode b_W_deposit 21 = .ok (.astore 5, 2) := by decide +kernel
theorem d_W_deposit_23 : decode b_W_deposit 23 = .ok (.iconst 3, 1) := by decide +kernel
theorem d_W_deposit_24 : decode b_W_deposit 24 = .ok (.ireturn, 1) := by decide +kernel
theorem d_W_deposit_25 : decode b_W_deposit 25 = .ok (.astore 5, 2) := by decide +kernel
theorem d_W_deposit_27 : decode b_W_deposit 27 = .ok (.iconst 4, 1) := by decide +kernel
theorem d_W_deposit_28 : decode b_W_deposit 28 = .ok (.ireturn, 1) := by decide +kernel
theorem d_W_deposit_29 : decode b_W_deposit 29 = .ok (.iconst 0, 1) := by decide +kernel
theorem d_W_deposit_30 : decode b_W_deposit 30 = .ok (.ireturn, 1) := by decide +kernel
theorem d_W_contact_0 : decode b_W_contact 0 = .ok (.aload_n 2, 1) := by decide +kernel
theorem d_W_contact_1 : decode b_W_contact 1 = .ok (.iconst 0, 1) := by decide +kernel
theorem d_W_contact_2 : decode b_W_contact 2 = .ok (.aload_n 0, 1) := by decide +kernel
theorem d_W_contact_3 : decode b_W_contact 3 = .ok (.iload_n 1, 1) := by decide +kernel
theorem d_W_contact_4 : decode b_W_contact 4 = .ok (.invokevirtual 25, 3) := by decide +kernel
theorem d_W_contact_7 : decode b_W_contact 7 = .ok (.i2l, 1) := by decide +kernel
theorem d_W_contact_8 : decode b_W_contact 8 = .ok (.lastore, 1) := by decide +kernel
theorem d_W_contact_9 : decode b_W_contact 9 = .ok (.goto 15, 3) := by decide +kernel
theorem d_W_contact_12 : decode b_W_contact 12 = .ok (.astore_n 3, 1) := by decide +kernel
theorem d_W_contact_13 : decode b_W_contact 13 = .ok (.iconst 1, 1) := by decide +kernel
theorem d_W_contact_14 : decode b_W_contact 14 = .ok (.ireturn, 1) := by decide +kernel
theorem d_W_contact_15 : decode b_W_contact 15 = .ok (.astore_n 3, 1) := by decide +kernel
theorem d_W_contact_16 : decode b_W_contact 16 = .ok (.iconst 2, 1) := by decide +kernel
theorem d_W_contact_17 : decode b_W_contact 17 = .ok (.ireturn, 1) := by decide +kernel
theorem d_W_contact_18 : decode b_W_contact 18 = .ok (.astore_n 3, 1) := by decide +kernel
theorem d_W_contact_19 : decode b_W_contact 19 = .ok (.iconst 3, 1) := by decide +kernel
theorem d_W_contact_20 : decode b_W_contact 20 = .ok (.ireturn, 1) := by decide +kernel
theorem d_W_contact_21 : decode b_W_contact 21 = .ok (.astore_n 3, 1) := by decide +kernel
theorem d_W_contact_22 : decode b_W_contact 22 = .ok (.iconst 4, 1) := by decide +kernel
theorem d_W_contact_23 : decode b_W_contact 23 = .ok (.ireturn, 1) := by decide +kernel
theorem d_W_contact_24 : decode b_W_contact 24 = .ok (.iconst 0, 1) := by decide +kernel
theorem d_W_contact_25 : decode b_W_contact 25 = .ok (.ireturn, 1) := by decide +kernel
theorem d_W_host_0 : decode b_W_host 0 = .ok (.aload 4, 2) := by decide +kernel
theorem d_W_host_2 : decode b_W_host 2 = .ok (.iconst 0, 1) := by decide +kernel
theorem d_W_host_3 : decode b_W_host 3 = .ok (.aload_n 0, 1) := by decide +kernel
theorem d_W_host_4 : decode b_W_host 4 = .ok (.iload_n 1, 1) := by decide +kernel
theorem d_W_host_5 : decode b_W_host 5 = .ok (.iload_n 2, 1) := by decide +kernel
theorem d_W_host_6 : decode b_W_host 6 = .ok (.iload_n 3, 1) := by decide +kernel
theorem d_W_host_7 : decode b_W_host 7 = .ok (.invokevirtual 29, 3) := by decide +kernel
theorem d_W_host_10 : decode b_W_host 10 = .ok (.i2l, 1) := by decide +kernel
theorem d_W_host_11 : decode b_W_host 11 = .ok (.lastore, 1) := by decide +kernel
theorem d_W_host_12 : decode b_W_host 12 = .ok (.goto 19, 3) := by decide +kernel
theorem d_W_host_15 : decode b_W_host 15 = .ok (.astore 5, 2) := by decide +kernel
theorem d_W_host_17 : decode b_W_host 17 = .ok (.iconst 1, 1) := by decide +kernel
theorem d_W_host_18 : decode b_W_host 18 = .ok (.ireturn, 1) := by decide +kernel
theorem d_W_host_19 : decode b_W_host 19 = .ok (.astore 5, 2) := by decide +kernel
theorem d_W_host_21 : decode b_W_host 21 = .ok (.iconst 2, 1) := by decide +kernel
theorem d_W_host_22 : decode b_W_host 22 = .ok (.ireturn, 1) := by decide +kernel
theorem d_W_host_23 : decode b_W_host 23 = .ok (.astore 5, 2) := by decide +kernel
theorem d_W_host_25 : decode b_W_host 25 = .ok (.iconst 3, 1) := by decide +kernel
theorem d_W_host_26 : decode b_W_host 26 = .ok (.ireturn, 1) := by decide +kernel
theorem d_W_host_27 : decode b_W_host 27 = .ok (.astore 5, 2) := by decide +kernel
theorem d_W_host_29 : decode b_W_host 29 = .ok (.iconst 4, 1) := by decide +kernel
theorem d_W_host_30 : decode b_W_host 30 = .ok (.ireturn, 1) := by decide +kernel
theorem d_W_host_31 : decode b_W_host 31 = .ok (.iconst 0, 1) := by decide +kernel
theorem d_W_host_32 : decode b_W_host 32 = .ok (.ireturn, 1) := by decide +kernel
theorem d_W_remove_0 : decode b_W_remove 0 = .ok (.aload 4, 2) := by decide +kernel
theorem d_W_remove_2 : decode b_W_remove 2 = .ok (.iconst 0, 1) := by decide +kernel
theorem d_W_remove_3 : decode b_W_remove 3 = .ok (.aload_n 0, 1) := by decide +kernel
theorem d_W_remove_4 : decode b_W_remove 4 = .ok (.iload_n 1, 1) := by decide +kernel
theorem d_W_remove_5 : decode b_W_remove 5 = .ok (.iload_n 2, 1) := by decide +kernel
theorem d_W_remove_6 : decode b_W_remove 6 = .ok (.iload_n 3, 1) := by decide +kernel
theorem d_W_remove_7 : decode b_W_remove 7 = .ok (.invokevirtual 33, 3) := by decide +kernel
theorem d_W_remove_10 : decode b_W_remove 10 = .ok (.i2l, 1) := by decide +kernel
theorem d_W_remove_11 : decode b_W_remove 11 = .ok (.lastore, 1) := by decide +kernel
theorem d_W_remove_12 : decode b_W_remove 12 = .ok (.goto 19, 3) := by decide +kernel
theorem d_W_remove_15 : decode b_W_remove 15 = .ok (.astore 5, 2) := by decide +kernel
theorem d_W_remove_17 : decode b_W_remove 17 = .ok (.iconst 1, 1) := by decide +kernel
theorem d_W_remove_18 : decode b_W_remove 18 = .ok (.ireturn, 1) := by decide +kernel
theorem d_W_remove_19 : decode b_W_remove 19 = .ok (.astore 5, 2) := by decide +kernel
theorem d_W_remove_21 : decode b_W_remove 21 = .ok (.iconst 2, 1) := by decide +kernel
theorem d_W_remove_22 : decode b_W_remove 22 = .ok (.ireturn, 1) := by decide +kernel
theorem d_W_remove_23 : decode b_W_remove 23 = .ok (.astore 5, 2) := by decide +kernel
theorem d_W_remove_25 : decode b_W_remove 25 = .ok (.iconst 3, 1) := by decide +kernel
theorem d_W_remove_26 : decode b_W_remove 26 = .ok (.ireturn, 1) := by decide +kernel
theorem d_W_remove_27 : decode b_W_remove 27 = .ok (.astore 5, 2) := by decide +kernel
theorem d_W_remove_29 : decode b_W_remove 29 = .ok (.iconst 4, 1) := by decide +kernel
theorem d_W_remove_30 : decode b_W_remove 30 = .ok (.ireturn, 1) := by decide +kernel
theorem d_W_remove_31 : decode b_W_remove 31 = .ok (.iconst 0, 1) := by decide +kernel
theorem d_W_remove_32 : decode b_W_remove 32 = .ok (.ireturn, 1) := by decide +kernel
theorem d_W_create_0 : decode b_W_create 0 = .ok (.aload 6, 2) := by decide +kernel
theorem d_W_create_2 : decode b_W_create 2 = .ok (.iconst 0, 1) := by decide +kernel
theorem d_W_create_3 : decode b_W_create 3 = .ok (.aload_n 0, 1) := by decide +kernel
theorem d_W_create_4 : decode b_W_create 4 = .ok (.iload_n 1, 1) := by decide +kernel
theorem d_W_create_5 : decode b_W_create 5 = .ok (.iload_n 2, 1) := by decide +kernel
theorem d_W_create_6 : decode b_W_create 6 = .ok (.iload_n 3, 1) := by decide +kernel
theorem d_W_create_7 : decode b_W_create 7 = .ok (.iload 4, 2) := by decide +kernel
theorem d_W_create_9 : decode b_W_create 9 = .ok (.iload 5, 2) := by decide +kernel
theorem d_W_create_11 : decode b_W_create 11 = .ok (.invokevirtual 36, 3) := by decide +kernel
theorem d_W_create_14 : decode b_W_create 14 = .ok (.i2l, 1) := by decide +kernel
theorem d_W_create_15 : decode b_W_create 15 = .ok (.lastore, 1) := by decide +kernel
theorem d_W_create_16 : decode b_W_create 16 = .ok (.goto 19, 3) := by decide +kernel
theorem d_W_create_19 : decode b_W_create 19 = .ok (.astore 7, 2) := by decide +kernel
theorem d_W_create_21 : decode b_W_create 21 = .ok (.iconst 1, 1) := by decide +kernel
theorem d_W_create_22 : decode b_W_create 22 = .ok (.ireturn, 1) := by decide +kernel
theorem d_W_create_23 : decode b_W_create 23 = .ok (.astore 7, 2) := by decide +kernel
theorem d_W_create_25 : decode b_W_create 25 = .ok (.iconst 2, 1) := by decide +kernel
theorem d_W_create_26 : decode b_W_create 26 = .ok (.ireturn, 1) := by decide +kernel
theorem d_W_create_27 : decode b_W_create 27 = .ok (.astore 7, 2) := by decide +kernel
theorem d_W_create_29 : decode b_W_create 29 = .ok (.iconst 3, 1) := by decide +kernel
theorem d_W_create_30 : decode b_W_create 30 = .ok (.ireturn, 1) := by decide +kernel
theorem d_W_create_31 : decode b_W_create 31 = .ok (.astore 7, 2) := by decide +kernel
theorem d_W_create_33 : decode b_W_create 33 = .ok (.iconst 4, 1) := by decide +kernel
theorem d_W_create_34 : decode b_W_create 34 = .ok (.ireturn, 1) := by decide +kernel
theorem d_W_create_35 : decode b_W_create 35 = .ok (.iconst 0, 1) := by decide +kernel
theorem d_W_create_36 : decode b_W_create 36 = .ok (.ireturn, 1) := by decide +kernel
theorem d_W_change_0 : decode b_W_change 0 = .ok (.aload 6, 2) := by decide +kernel
theorem d_W_change_2 : decode b_W_change 2 = .ok (.iconst 0, 1) := by decide +kernel
theorem d_W_change_3 : decode b_W_change 3 = .ok (.aload_n 0, 1) := by decide +kernel
theorem d_W_change_4 : decode b_W_change 4 = .ok (.iload_n 1, 1) := by decide +kernel
theorem d_W_change_5 : decode b_W_change 5 = .ok (.iload_n 2, 1) := by decide +kernel
theorem d_W_change_6 : decode b_W_change 6 = .ok (.iload_n 3, 1) := by decide +kernel
theorem d_W_change_7 : decode b_W_change 7 = .ok (.iload 4, 2) := by decide +kernel
theorem d_W_change_9 : decode b_W_change 9 = .ok (.iload 5, 2) := by decide +kernel
theorem d_W_change_11 : decode b_W_change 11 = .ok (.invokevirtual 40, 3) := by decide +kernel
theorem d_W_change_14 : decode b_W_change 14 = .ok (.i2l, 1) := by decide +kernel
theorem d_W_change_15 : decode b_W_change 15 = .ok (.lastore, 1) := by decide +kernel
theorem d_W_change_16 : decode b_W_change 16 = .ok (.goto 19, 3) := by decide +kernel
theorem d_W_change_19 : decode b_W_change 19 = .ok (.astore 7, 2) := by decide +kernel
theorem d_W_change_21 : decode b_W_change 21 = .ok (.iconst 1, 1) := by decide +kernel
theorem d_W_change_22 : decode b_W_change 22 = .ok (.ireturn, 1) := by decide +kernel
theorem d_W_change_23 : decode b_W_change 23 = .ok (.astore 7, 2) := by decide +kernel
theorem d_W_change_25 : decode b_W_change 25 = .ok (.iconst 2, 1) := by decide +kernel
theorem d_W_change_26 : decode b_W_change 26 = .ok (.ireturn, 1) := by decide +kernel
theorem d_W_change_27 : decode b_W_change 27 = .ok (.astore 7, 2) := by decide +kernel
theorem d_W_change_29 : decode b_W_change 29 = .ok (.iconst 3, 1) := by decide +kernel
theorem d_W_change_30 : decode b_W_change 30 = .ok (.ireturn, 1) := by decide +kernel
theorem d_W_change_31 : decode b_W_change 31 = .ok (.astore 7, 2) := by decide +kernel
theorem d_W_change_33 : decode b_W_change 33 = .ok (.iconst 4, 1) := by decide +kernel
theorem d_W_change_34 : decode b_W_change 34 = .ok (.ireturn, 1) := by decide +kernel
theorem d_W_change_35 : decode b_W_change 35 = .ok (.iconst 0, 1) := by decide +kernel
theorem d_W_change_36 : decode b_W_change 36 = .ok (.ireturn, 1) := by decide +kernel
theorem d_W_lock_0 : decode b_W_lock 0 = .ok (.aload 4, 2) := by decide +kernel
theorem d_W_lock_2 : decode b_W_lock 2 = .ok (.iconst 0, 1) := by decide +kernel
theorem d_W_lock_3 : decode b_W_lock 3 = .ok (.aload_n 0, 1) := by decide +kernel
theorem d_W_lock_4 : decode b_W_lock 4 = .ok (.iload_n 1, 1) := by decide +kernel
theorem d_W_lock_5 : decode b_W_lock 5 = .ok (.iload_n 2, 1) := by decide +kernel
theorem d_W_lock_6 : decode b_W_lock 6 = .ok (.iload_n 3, 1) := by decide +kernel
theorem d_W_lock_7 : decode b_W_lock 7 = .ok (.invokevirtual 44, 3) := by decide +kernel
theorem d_W_lock_10 : decode b_W_lock 10 = .ok (.i2l, 1) := by decide +kernel
theorem d_W_lock_11 : decode b_W_lock 11 = .ok (.lastore, 1) := by decide +kernel
theorem d_W_lock_12 : decode b_W_lock 12 = .ok (.goto 19, 3) := by decide +kernel
theorem d_W_lock_15 : decode b_W_lock 15 = .ok (.astore 5, 2) := by decide +kernel
theorem d_W_lock_17 : decode b_W_lock 17 = .ok (.iconst 1, 1) := by decide +kernel
theorem d_W_lock_18 : decode b_W_lock 18 = .ok (.ireturn, 1) := by decide +kernel
theorem d_W_lock_19 : decode b_W_lock 19 = .ok (.astore 5, 2) := by decide +kernel
theorem d_W_lock_21 : decode b_W_lock 21 = .ok (.iconst 2, 1) := by decide +kernel
theorem d_W_lock_22 : decode b_W_lock 22 = .ok (.ireturn, 1) := by decide +kernel
theorem d_W_lock_23 : decode b_W_lock 23 = .ok (.astore 5, 2) := by decide +kernel
theorem d_W_lock_25 : decode b_W_lock 25 = .ok (.iconst 3, 1) := by decide +kernel
theorem d_W_lock_26 : decode b_W_lock 26 = .ok (.ireturn, 1) := by decide +kernel
theorem d_W_lock_27 : decode b_W_lock 27 = .ok (.astore 5, 2) := by decide +kernel
theorem d_W_lock_29 : decode b_W_lock 29 = .ok (.iconst 4, 1) := by decide +kernel
theorem d_W_lock_30 : decode b_W_lock 30 = .ok (.ireturn, 1) := by decide +kernel
theorem d_W_lock_31 : decode b_W_lock 31 = .ok (.iconst 0, 1) := by decide +kernel
theorem d_W_lock_32 : decode b_W_lock 32 = .ok (.ireturn, 1) := by decide +kernel
theorem d_W_renew_0 : decode b_W_renew 0 = .ok (.aload 4, 2) := by decide +kernel
theorem d_W_renew_2 : decode b_W_renew 2 = .ok (.iconst 0, 1) := by decide +kernel
theorem d_W_renew_3 : decode b_W_renew 3 = .ok (.aload_n 0, 1) := by decide +kernel
theorem d_W_renew_4 : decode b_W_renew 4 = .ok (.iload_n 1, 1) := by decide +kernel
theorem d_W_renew_5 : decode b_W_renew 5 = .ok (.iload_n 2, 1) := by decide +kernel
theorem d_W_renew_6 : decode b_W_renew 6 = .ok (.iload_n 3, 1) := by decide +kernel
theorem d_W_renew_7 : decode b_W_renew 7 = .ok (.invokevirtual 47, 3) := by decide +kernel
theorem d_W_renew_10 : decode b_W_renew 10 = .ok (.i2l, 1) := by decide +kernel
theorem d_W_renew_11 : decode b_W_renew 11 = .ok (.lastore, 1) := by decide +kernel
theorem d_W_renew_12 : decode b_W_renew 12 = .ok (.goto 19, 3) := by decide +kernel
theorem d_W_renew_15 : decode b_W_renew 15 = .ok (.astore 5, 2) := by decide +kernel
theorem d_W_renew_17 : decode b_W_renew 17 = .ok (.iconst 1, 1) := by decide +kernel
theorem d_W_renew_18 : decode b_W_renew 18 = .ok (.ireturn, 1) := by decide +kernel
theorem d_W_renew_19 : decode b_W_renew 19 = .ok (.astore 5, 2) := by decide +kernel
theorem d_W_renew_21 : decode b_W_renew 21 = .ok (.iconst 2, 1) := by decide +kernel
theorem d_W_renew_22 : decode b_W_renew 22 = .ok (.ireturn, 1) := by decide +kernel
theorem d_W_renew_23 : decode b_W_renew 23 = .ok (.astore 5, 2) := by decide +kernel
theorem d_W_renew_25 : decode b_W_renew 25 = .ok (.iconst 3, 1) := by decide +kernel
theorem d_W_renew_26 : decode b_W_renew 26 = .ok (.ireturn, 1) := by decide +kernel
theorem d_W_renew_27 : decode b_W_renew 27 = .ok (.astore 5, 2) := by decide +kernel
theorem d_W_renew_29 : decode b_W_renew 29 = .ok (.iconst 4, 1) := by decide +kernel
theorem d_W_renew_30 : decode b_W_renew 30 = .ok (.ireturn, 1) := by decide +kernel
theorem d_W_renew_31 : decode b_W_renew 31 = .ok (.iconst 0, 1) := by decide +kernel
theorem d_W_renew_32 : decode b_W_renew 32 = .ok (.ireturn, 1) := by decide +kernel
theorem d_W_delete_0 : decode b_W_delete 0 = .ok (.aload_n 3, 1) := by decide +kernel
theorem d_W_delete_1 : decode b_W_delete 1 = .ok (.iconst 0, 1) := by decide +kernel
theorem d_W_delete_2 : decode b_W_delete 2 = .ok (.aload_n 0, 1) := by decide +kernel
theorem d_W_delete_3 : decode b_W_delete 3 = .ok (.iload_n 1, 1) := by decide +kernel
theorem d_W_delete_4 : decode b_W_delete 4 = .ok (.iload_n 2, 1) := by decide +kernel
theorem d_W_delete_5 : decode b_W_delete 5 = .ok (.invokevirtual 50, 3) := by decide +kernel
theorem d_W_delete_8 : decode b_W_delete 8 = .ok (.i2l, 1) := by decide +kernel
theorem d_W_delete_9 : decode b_W_delete 9 = .ok (.lastore, 1) := by decide +kernel
theorem d_W_delete_10 : decode b_W_delete 10 = .ok (.goto 19, 3) := by decide +kernel
theorem d_W_delete_13 : decode b_W_delete 13 = .ok (.astore 4, 2) := by decide +kernel
theorem d_W_delete_15 : decode b_W_delete 15 = .ok (.iconst 1, 1) := by decide +kernel
theorem d_W_delete_16 : decode b_W_delete 16 = .ok (.ireturn, 1) := by decide +kernel
theorem d_W_delete_17 : decode b_W_delete 17 = .ok (.astore 4, 2) := by decide +kernel
theorem d_W_delete_19 : decode b_W_delete 19 = .ok (.iconst 2, 1) := by decide +kernel
theorem d_W_delete_20 : decode b_W_delete 20 = .ok (.ireturn, 1) := by decide +kernel
theorem d_W_delete_21 : decode b_W_delete 21 = .ok (.astore 4, 2) := by decide +kernel
theorem d_W_delete_23 : decode b_W_delete 23 = .ok (.iconst 3, 1) := by decide +kernel
theorem d_W_delete_24 : decode b_W_delete 24 = .ok (.ireturn, 1) := by decide +kernel
theorem d_W_delete_25 : decode b_W_delete 25 = .ok (.astore 4, 2) := by decide +kernel
theorem d_W_delete_27 : decode b_W_delete 27 = .ok (.iconst 4, 1) := by decide +kernel
theorem d_W_delete_28 : decode b_W_delete 28 = .ok (.ireturn, 1) := by decide +kernel
theorem d_W_delete_29 : decode b_W_delete 29 = .ok (.iconst 0, 1) := by decide +kernel
theorem d_W_delete_30 : decode b_W_delete 30 = .ok (.ireturn, 1) := by decide +kernel
theorem d_W_restore_0 : decode b_W_restore 0 = .ok (.aload_n 3, 1) := by decide +kernel
theorem d_W_restore_1 : decode b_W_restore 1 = .ok (.iconst 0, 1) := by decide +kernel
theorem d_W_restore_2 : decode b_W_restore 2 = .ok (.aload_n 0, 1) := by decide +kernel
theorem d_W_restore_3 : decode b_W_restore 3 = .ok (.iload_n 1, 1) := by decide +kernel
theorem d_W_restore_4 : decode b_W_restore 4 = .ok (.iload_n 2, 1) := by decide +kernel
theorem d_W_restore_5 : decode b_W_restore 5 = .ok (.invokevirtual 54, 3) := by decide +kernel
theorem d_W_restore_8 : decode b_W_restore 8 = .ok (.i2l, 1) := by decide +kernel
theorem d_W_restore_9 : decode b_W_restore 9 = .ok (.lastore, 1) := by decide +kernel
theorem d_W_restore_10 : decode b_W_restore 10 = .ok (.goto 19, 3) := by decide +kernel
theorem d_W_restore_13 : decode b_W_restore 13 = .ok (.astore 4, 2) := by decide +kernel
theorem d_W_restore_15 : decode b_W_restore 15 = .ok (.iconst 1, 1) := by decide +kernel
theorem d_W_restore_16 : decode b_W_restore 16 = .ok (.ireturn, 1) := by decide +kernel
theorem d_W_restore_17 : decode b_W_restore 17 = .ok (.astore 4, 2) := by decide +kernel
theorem d_W_restore_19 : decode b_W_restore 19 = .ok (.iconst 2, 1) := by decide +kernel
theorem d_W_restore_20 : decode b_W_restore 20 = .ok (.ireturn, 1) := by decide +kernel
theorem d_W_restore_21 : decode b_W_restore 21 = .ok (.astore 4, 2) := by decide +kernel
theorem d_W_restore_23 : decode b_W_restore 23 = .ok (.iconst 3, 1) := by decide +kernel
theorem d_W_restore_24 : decode b_W_restore 24 = .ok (.ireturn, 1) := by decide +kernel
theorem d_W_restore_25 : decode b_W_restore 25 = .ok (.astore 4, 2) := by decide +kernel
theorem d_W_restore_27 : decode b_W_restore 27 = .ok (.iconst 4, 1) := by decide +kernel
theorem d_W_restore_28 : decode b_W_restore 28 = .ok (.ireturn, 1) := by decide +kernel
theorem d_W_restore_29 : decode b_W_restore 29 = .ok (.iconst 0, 1) := by decide +kernel
theorem d_W_restore_30 : decode b_W_restore 30 = .ok (.ireturn, 1) := by decide +kernel
theorem d_W_ask_0 : decode b_W_ask 0 = .ok (.aload 4, 2) := by decide +kernel
theorem d_W_ask_2 : decode b_W_ask 2 = .ok (.iconst 0, 1) := by decide +kernel
theorem d_W_ask_3 : decode b_W_ask 3 = .ok (.aload_n 0, 1) := by decide +kernel
theorem d_W_ask_4 : decode b_W_ask 4 = .ok (.iload_n 1, 1) := by decide +kernel
theorem d_W_ask_5 : decode b_W_ask 5 = .ok (.iload_n 2, 1) := by decide +kernel
theorem d_W_ask_6 : decode b_W_ask 6 = .ok (.iload_n 3, 1) := by decide +kernel
theorem d_W_ask_7 : decode b_W_ask 7 = .ok (.invokevirtual 57, 3) := by decide +kernel
theorem d_W_ask_10 : decode b_W_ask 10 = .ok (.i2l, 1) := by decide +kernel
theorem d_W_ask_11 : decode b_W_ask 11 = .ok (.lastore, 1) := by decide +kernel
theorem d_W_ask_12 : decode b_W_ask 12 = .ok (.goto 19, 3) := by decide +kernel
theorem d_W_ask_15 : decode b_W_ask 15 = .ok (.astore 5, 2) := by decide +kernel
theorem d_W_ask_17 : decode b_W_ask 17 = .ok (.iconst 1, 1) := by decide +kernel
theorem d_W_ask_18 : decode b_W_ask 18 = .ok (.ireturn, 1) := by decide +kernel
theorem d_W_ask_19 : decode b_W_ask 19 = .ok (.astore 5, 2) := by decide +kernel
theorem d_W_ask_21 : decode b_W_ask 21 = .ok (.iconst 2, 1) := by decide +kernel
theorem d_W_ask_22 : decode b_W_ask 22 = .ok (.ireturn, 1) := by decide +kernel
theorem d_W_ask_23 : decode b_W_ask 23 = .ok (.astore 5, 2) := by decide +kernel
theorem d_W_ask_25 : decode b_W_ask 25 = .ok (.iconst 3, 1) := by decide +kernel
theorem d_W_ask_26 : decode b_W_ask 26 = .ok (.ireturn, 1) := by decide +kernel
theorem d_W_ask_27 : decode b_W_ask 27 = .ok (.astore 5, 2) := by decide +kernel
theorem d_W_ask_29 : decode b_W_ask 29 = .ok (.iconst 4, 1) := by decide +kernel
theorem d_W_ask_30 : decode b_W_ask 30 = .ok (.ireturn, 1) := by decide +kernel
theorem d_W_ask_31 : decode b_W_ask 31 = .ok (.iconst 0, 1) := by decide +kernel
theorem d_W_ask_32 : decode b_W_ask 32 = .ok (.ireturn, 1) := by decide +kernel
theorem d_W_answer_0 : decode b_W_answer 0 = .ok (.aload 4, 2) := by decide +kernel
theorem d_W_answer_2 : decode b_W_answer 2 = .ok (.iconst 0, 1) := by decide +kernel
theorem d_W_answer_3 : decode b_W_answer 3 = .ok (.aload_n 0, 1) := by decide +kernel
theorem d_W_answer_4 : decode b_W_answer 4 = .ok (.iload_n 1, 1) := by decide +kernel
theorem d_W_answer_5 : decode b_W_answer 5 = .ok (.iload_n 2, 1) := by decide +kernel
theorem d_W_answer_6 : decode b_W_answer 6 = .ok (.iload_n 3, 1) := by decide +kernel
theorem d_W_answer_7 : decode b_W_answer 7 = .ok (.invokevirtual 60, 3) := by decide +kernel
theorem d_W_answer_10 : decode b_W_answer 10 = .ok (.i2l, 1) := by decide +kernel
theorem d_W_answer_11 : decode b_W_answer 11 = .ok (.lastore, 1) := by decide +kernel
theorem d_W_answer_12 : decode b_W_answer 12 = .ok (.goto 19, 3) := by decide +kernel
theorem d_W_answer_15 : decode b_W_answer 15 = .ok (.astore 5, 2) := by decide +kernel
theorem d_W_answer_17 : decode b_W_answer 17 = .ok (.iconst 1, 1) := by decide +kernel
theorem d_W_answer_18 : decode b_W_answer 18 = .ok (.ireturn, 1) := by decide +kernel
theorem d_W_answer_19 : decode b_W_answer 19 = .ok (.astore 5, 2) := by decide +kernel
theorem d_W_answer_21 : decode b_W_answer 21 = .ok (.iconst 2, 1) := by decide +kernel
theorem d_W_answer_22 : decode b_W_answer 22 = .ok (.ireturn, 1) := by decide +kernel
theorem d_W_answer_23 : decode b_W_answer 23 = .ok (.astore 5, 2) := by decide +kernel
theorem d_W_answer_25 : decode b_W_answer 25 = .ok (.iconst 3, 1) := by decide +kernel
theorem d_W_answer_26 : decode b_W_answer 26 = .ok (.ireturn, 1) := by decide +kernel
theorem d_W_answer_27 : decode b_W_answer 27 = .ok (.astore 5, 2) := by decide +kernel
theorem d_W_answer_29 : decode b_W_answer 29 = .ok (.iconst 4, 1) := by decide +kernel
theorem d_W_answer_30 : decode b_W_answer 30 = .ok (.ireturn, 1) := by decide +kernel
theorem d_W_answer_31 : decode b_W_answer 31 = .ok (.iconst 0, 1) := by decide +kernel
theorem d_W_answer_32 : decode b_W_answer 32 = .ok (.ireturn, 1) := by decide +kernel
theorem d_W_pass_0 : decode b_W_pass 0 = .ok (.aload_n 2, 1) := by decide +kernel
theorem d_W_pass_1 : decode b_W_pass 1 = .ok (.iconst 0, 1) := by decide +kernel
theorem d_W_pass_2 : decode b_W_pass 2 = .ok (.aload_n 0, 1) := by decide +kernel
theorem d_W_pass_3 : decode b_W_pass 3 = .ok (.iload_n 1, 1) := by decide +kernel
theorem d_W_pass_4 : decode b_W_pass 4 = .ok (.invokevirtual 64, 3) := by decide +kernel
theorem d_W_pass_7 : decode b_W_pass 7 = .ok (.i2l, 1) := by decide +kernel
theorem d_W_pass_8 : decode b_W_pass 8 = .ok (.lastore, 1) := by decide +kernel
theorem d_W_pass_9 : decode b_W_pass 9 = .ok (.goto 15, 3) := by decide +kernel
theorem d_W_pass_12 : decode b_W_pass 12 = .ok (.astore_n 3, 1) := by decide +kernel
theorem d_W_pass_13 : decode b_W_pass 13 = .ok (.iconst 1, 1) := by decide +kernel
theorem d_W_pass_14 : decode b_W_pass 14 = .ok (.ireturn, 1) := by decide +kernel
theorem d_W_pass_15 : decode b_W_pass 15 = .ok (.astore_n 3, 1) := by decide +kernel
theorem d_W_pass_16 : decode b_W_pass 16 = .ok (.iconst 2, 1) := by decide +kernel
theorem d_W_pass_17 : decode b_W_pass 17 = .ok (.ireturn, 1) := by decide +kernel
theorem d_W_pass_18 : decode b_W_pass 18 = .ok (.astore_n 3, 1) := by decide +kernel
theorem d_W_pass_19 : decode b_W_pass 19 = .ok (.iconst 3, 1) := by decide +kernel
theorem d_W_pass_20 : decode b_W_pass 20 = .ok (.ireturn, 1) := by decide +kernel
theorem d_W_pass_21 : decode b_W_pass 21 = .ok (.astore_n 3, 1) := by decide +kernel
theorem d_W_pass_22 : decode b_W_pass 22 = .ok (.iconst 4, 1) := by decide +kernel
theorem d_W_pass_23 : decode b_W_pass 23 = .ok (.ireturn, 1) := by decide +kernel
theorem d_W_pass_24 : decode b_W_pass 24 = .ok (.iconst 0, 1) := by decide +kernel
theorem d_W_pass_25 : decode b_W_pass 25 = .ok (.ireturn, 1) := by decide +kernel
theorem d_W_message_0 : decode b_W_message 0 = .ok (.aload_n 2, 1) := by decide +kernel
theorem d_W_message_1 : decode b_W_message 1 = .ok (.iconst 0, 1) := by decide +kernel
theorem d_W_message_2 : decode b_W_message 2 = .ok (.aload_n 0, 1) := by decide +kernel
theorem d_W_message_3 : decode b_W_message 3 = .ok (.iload_n 1, 1) := by decide +kernel
theorem d_W_message_4 : decode b_W_message 4 = .ok (.invokevirtual 67, 3) := by decide +kernel
theorem d_W_message_7 : decode b_W_message 7 = .ok (.i2l, 1) := by decide +kernel
theorem d_W_message_8 : decode b_W_message 8 = .ok (.lastore, 1) := by decide +kernel
theorem d_W_message_9 : decode b_W_message 9 = .ok (.goto 15, 3) := by decide +kernel
theorem d_W_message_12 : decode b_W_message 12 = .ok (.astore_n 3, 1) := by decide +kernel
theorem d_W_message_13 : decode b_W_message 13 = .ok (.iconst 1, 1) := by decide +kernel
theorem d_W_message_14 : decode b_W_message 14 = .ok (.ireturn, 1) := by decide +kernel
theorem d_W_message_15 : decode b_W_message 15 = .ok (.astore_n 3, 1) := by decide +kernel
theorem d_W_message_16 : decode b_W_message 16 = .ok (.iconst 2, 1) := by decide +kernel
theorem d_W_message_17 : decode b_W_message 17 = .ok (.ireturn, 1) := by decide +kernel
theorem d_W_message_18 : decode b_W_message 18 = .ok (.astore_n 3, 1) := by decide +kernel
theorem d_W_message_19 : decode b_W_message 19 = .ok (.iconst 3, 1) := by decide +kernel
theorem d_W_message_20 : decode b_W_message 20 = .ok (.ireturn, 1) := by decide +kernel
theorem d_W_message_21 : decode b_W_message 21 = .ok (.astore_n 3, 1) := by decide +kernel
theorem d_W_message_22 : decode b_W_message 22 = .ok (.iconst 4, 1) := by decide +kernel
theorem d_W_message_23 : decode b_W_message 23 = .ok (.ireturn, 1) := by decide +kernel
theorem d_W_message_24 : decode b_W_message 24 = .ok (.iconst 0, 1) := by decide +kernel
theorem d_W_message_25 : decode b_W_message 25 = .ok (.ireturn, 1) := by decide +kernel
theorem d_W_acknowledge_0 : decode b_W_acknowledge 0 = .ok (.aload_n 2, 1) := by decide +kernel
theorem d_W_acknowledge_1 : decode b_W_acknowledge 1 = .ok (.iconst 0, 1) := by decide +kernel
theorem d_W_acknowledge_2 : decode b_W_acknowledge 2 = .ok (.aload_n 0, 1) := by decide +kernel
theorem d_W_acknowledge_3 : decode b_W_acknowledge 3 = .ok (.iload_n 1, 1) := by decide +kernel
theorem d_W_acknowledge_4 : decode b_W_acknowledge 4 = .ok (.invokevirtual 70, 3) := by decide +kernel
theorem d_W_acknowledge_7 : decode b_W_acknowledge 7 = .ok (.i2l, 1) := by decide +kernel
theorem d_W_acknowledge_8 : decode b_W_acknowledge 8 = .ok (.lastore, 1) := by decide +kernel
theorem d_W_acknowledge_9 : decode b_W_acknowledge 9 = .ok (.goto 15, 3) := by decide +kernel
theorem d_W_acknowledge_12 : decode b_W_acknowledge 12 = .ok (.astore_n 3, 1) := by decide +kernel
theorem d_W_acknowledge_13 : decode b_W_acknowledge 13 = .ok (.iconst 1, 1) := by decide +kernel
theorem d_W_acknowledge_14 : decode b_W_acknowledge 14 = .ok (.ireturn, 1) := by decide +kernel
theorem d_W_acknowledge_15 : decode b_W_acknowledge 15 = .ok (.astore_n 3, 1) := by decide +kernel
theorem d_W_acknowledge_16 : decode b_W_acknowledge 16 = .ok (.iconst 2, 1) := by decide +kernel
theorem d_W_acknowledge_17 : decode b_W_acknowledge 17 = .ok (.ireturn, 1) := by decide +kernel
theorem d_W_acknowledge_18 : decode b_W_acknowledge 18 = .ok (.astore_n 3, 1) := by decide +kernel
theorem d_W_acknowledge_19 : decode b_W_acknowledge 19 = .ok (.iconst 3, 1) := by decide +kernel
theorem d_W_acknowledge_20 : decode b_W_acknowledge 20 = .ok (.ireturn, 1) := by decide +kernel
theorem d_W_acknowledge_21 : decode b_W_acknowledge 21 = .ok (.astore_n 3, 1) := by decide +kernel
theorem d_W_acknowledge_22 : decode b_W_acknowledge 22 = .ok (.iconst 4, 1) := by decide +kernel
theorem d_W_acknowledge_23 : decode b_W_acknowledge 23 = .ok (.ireturn, 1) := by decide +kernel
theorem d_W_acknowledge_24 : decode b_W_acknowledge 24 = .ok (.iconst 0, 1) := by decide +kernel
theorem d_W_acknowledge_25 : decode b_W_acknowledge 25 = .ok (.ireturn, 1) := by decide +kernel
theorem d_W_balance_0 : decode b_W_balance 0 = .ok (.aload_n 2, 1) := by decide +kernel
theorem d_W_balance_1 : decode b_W_balance 1 = .ok (.iconst 0, 1) := by decide +kernel
theorem d_W_balance_2 : decode b_W_balance 2 = .ok (.aload_n 0, 1) := by decide +kernel
theorem d_W_balance_3 : decode b_W_balance 3 = .ok (.iload_n 1, 1) := by decide +kernel
theorem d_W_balance_4 : decode b_W_balance 4 = .ok (.invokevirtual 73, 3) := by decide +kernel
theorem d_W_balance_7 : decode b_W_balance 7 = .ok (.dastore, 1) := by decide +kernel
theorem d_W_balance_8 : decode b_W_balance 8 = .ok (.goto 15, 3) := by decide +kernel
theorem d_W_balance_11 : decode b_W_balance 11 = .ok (.astore_n 3, 1) := by decide +kernel
theorem d_W_balance_12 : decode b_W_balance 12 = .ok (.iconst 1, 1) := by decide +kernel
theorem d_W_balance_13 : decode b_W_balance 13 = .ok (.ireturn, 1) := by decide +kernel
theorem d_W_balance_14 : decode b_W_balance 14 = .ok (.astore_n 3, 1) := by decide +kernel
theorem d_W_balance_15 : decode b_W_balance 15 = .ok (.iconst 2, 1) := by decide +kernel
theorem d_W_balance_16 : decode b_W_balance 16 = .ok (.ireturn, 1) := by decide +kernel
theorem d_W_balance_17 : decode b_W_balance 17 = .ok (.astore_n 3, 1) := by decide +kernel
theorem d_W_balance_18 : decode b_W_balance 18 = .ok (.iconst 3, 1) := by decide +kernel
theorem d_W_balance_19 : decode b_W_balance 19 = .ok (.ireturn, 1) := by decide +kernel
theorem d_W_balance_20 : decode b_W_balance 20 = .ok (.astore_n 3, 1) := by decide +kernel
theorem d_W_balance_21 : decode b_W_balance 21 = .ok (.iconst 4, 1) := by decide +kernel
theorem d_W_balance_22 : decode b_W_balance 22 = .ok (.ireturn, 1) := by decide +kernel
theorem d_W_balance_23 : decode b_W_balance 23 = .ok (.iconst 0, 1) := by decide +kernel
theorem d_W_balance_24 : decode b_W_balance 24 = .ok (.ireturn, 1) := by decide +kernel
theorem d_W_paid_0 : decode b_W_paid 0 = .ok (.aload_n 3, 1) := by decide +kernel
theorem d_W_paid_1 : decode b_W_paid 1 = .ok (.iconst 0, 1) := by decide +kernel
theorem d_W_paid_2 : decode b_W_paid 2 = .ok (.aload_n 0, 1) := by decide +kernel
theorem d_W_paid_3 : decode b_W_paid 3 = .ok (.iload_n 1, 1) := by decide +kernel
theorem d_W_paid_4 : decode b_W_paid 4 = .ok (.iload_n 2, 1) := by decide +kernel
theorem d_W_paid_5 : decode b_W_paid 5 = .ok (.invokevirtual 77, 3) := by decide +kernel
theorem d_W_paid_8 : decode b_W_paid 8 = .ok (.dastore, 1) := by decide +kernel
theorem d_W_paid_9 : decode b_W_paid 9 = .ok (.goto 19, 3) := by decide +kernel
theorem d_W_paid_12 : decode b_W_paid 12 = .ok (.astore 4, 2) := by decide +kernel
theorem d_W_paid_14 : decode b_W_paid 14 = .ok (.iconst 1, 1) := by decide +kernel
theorem d_W_paid_15 : decode b_W_paid 15 = .ok (.ireturn, 1) := by decide +kernel
theorem d_W_paid_16 : decode b_W_paid 16 = .ok (.astore 4, 2) := by decide +kernel
theorem d_W_paid_18 : decode b_W_paid 18 = .ok (.iconst 2, 1) := by decide +kernel
theorem d_W_paid_19 : decode b_W_paid 19 = .ok (.ireturn, 1) := by decide +kernel
theorem d_W_paid_20 : decode b_W_paid 20 = .ok (.astore 4, 2) := by decide +kernel
theorem d_W_paid_22 : decode b_W_paid 22 = .ok (.iconst 3, 1) := by decide +kernel
theorem d_W_paid_23 : decode b_W_paid 23 = .ok (.ireturn, 1) := by decide +kernel
theorem d_W_paid_24 : decode b_W_paid 24 = .ok (.astore 4, 2) := by decide +kernel
theorem d_W_paid_26 : decode b_W_paid 26 = .ok (.iconst 4, 1) := by decide +kernel
theorem d_W_paid_27 : decode b_W_paid 27 = .ok (.ireturn, 1) := by decide +kernel
theorem d_W_paid_28 : decode b_W_paid 28 = .ok (.iconst 0, 1) := by decide +kernel
theorem d_W_paid_29 : decode b_W_paid 29 = .ok (.ireturn, 1) := by decide +kernel
theorem d_W_domain_0 : decode b_W_domain 0 = .ok (.aload_n 3, 1) := by decide +kernel
theorem d_W_domain_1 : decode b_W_domain 1 = .ok (.iconst 0, 1) := by decide +kernel
theorem d_W_domain_2 : decode b_W_domain 2 = .ok (.aload_n 0, 1) := by decide +kernel
theorem d_W_domain_3 : decode b_W_domain 3 = .ok (.iload_n 1, 1) := by decide +kernel
theorem d_W_domain_4 : decode b_W_domain 4 = .ok (.iload_n 2, 1) := by decide +kernel
theorem d_W_domain_5 : decode b_W_domain 5 = .ok (.invokevirtual 81, 3) := by decide +kernel
theorem d_W_domain_8 : decode b_W_domain 8 = .ok (.i2l, 1) := by decide +kernel
theorem d_W_domain_9 : decode b_W_domain 9 = .ok (.lastore, 1) := by decide +kernel
theorem d_W_domain_10 : decode b_W_domain 10 = .ok (.goto 19, 3) := by decide +kernel
theorem d_W_domain_13 : decode b_W_domain 13 = .ok (.astore 4, 2) := by decide +kernel
theorem d_W_domain_15 : decode b_W_domain 15 = .ok (.iconst 1, 1) := by decide +kernel
theorem d_W_domain_16 : decode b_W_domain 16 = .ok (.ireturn, 1) := by decide +kernel
theorem d_W_domain_17 : decode b_W_domain 17 = .ok (.astore 4, 2) := by decide +kernel
theorem d_W_domain_19 : decode b_W_domain 19 = .ok (.iconst 2, 1) := by decide +kernel
theorem d_W_domain_20 : decode b_W_domain 20 = .ok (.ireturn, 1) := by decide +kernel
theorem d_W_domain_21 : decode b_W_domain 21 = .ok (.astore 4, 2) := by decide +kernel
theorem d_W_domain_23 : decode b_W_domain 23 = .ok (.iconst 3, 1) := by decide +kernel
theorem d_W_domain_24 : decode b_W_domain 24 = .ok (.ireturn, 1) := by decide +kernel
theorem d_W_domain_25 : decode b_W_domain 25 = .ok (.astore 4, 2) := by decide +kernel
theorem d_W_domain_27 : decode b_W_domain 27 = .ok (.iconst 4, 1) := by decide +kernel
theorem d_W_domain_28 : decode b_W_domain 28 = .ok (.ireturn, 1) := by decide +kernel
theorem d_W_domain_29 : decode b_W_domain 29 = .ok (.iconst 0, 1) := by decide +kernel
theorem d_W_domain_30 : decode b_W_domain 30 = .ok (.ireturn, 1) := by decide +kernel
theorem d_W_thing_0 : decode b_W_thing 0 = .ok (.aload_n 3, 1) := by decide +kernel
theorem d_W_thing_1 : decode b_W_thing 1 = .ok (.iconst 0, 1) := by decide +kernel
theorem d_W_thing_2 : decode b_W_thing 2 = .ok (.aload_n 0, 1) := by decide +kernel
theorem d_W_thing_3 : decode b_W_thing 3 = .ok (.iload_n 1, 1) := by decide +kernel
theorem d_W_thing_4 : decode b_W_thing 4 = .ok (.iload_n 2, 1) := by decide +kernel
theorem d_W_thing_5 : decode b_W_thing 5 = .ok (.invokevirtual 84, 3) := by decide +kernel
theorem d_W_thing_8 : decode b_W_thing 8 = .ok (.i2l, 1) := by decide +kernel
theorem d_W_thing_9 : decode b_W_thing 9 = .ok (.lastore, 1) := by decide +kernel
theorem d_W_thing_10 : decode b_W_thing 10 = .ok (.goto 19, 3) := by decide +kernel
theorem d_W_thing_13 : decode b_W_thing 13 = .ok (.astore 4, 2) := by decide +kernel
theorem d_W_thing_15 : decode b_W_thing 15 = .ok (.iconst 1, 1) := by decide +kernel
theorem d_W_thing_16 : decode b_W_thing 16 = .ok (.ireturn, 1) := by decide +kernel
theorem d_W_thing_17 : decode b_W_thing 17 = .ok (.astore 4, 2) := by decide +kernel
theorem d_W_thing_19 : decode b_W_thing 19 = .ok (.iconst 2, 1) := by decide +kernel
theorem d_W_thing_20 : decode b_W_thing 20 = .ok (.ireturn, 1) := by decide +kernel
theorem d_W_thing_21 : decode b_W_thing 21 = .ok (.astore 4, 2) := by decide +kernel
theorem d_W_thing_23 : decode b_W_thing 23 = .ok (.iconst 3, 1) := by decide +kernel
theorem d_W_thing_24 : decode b_W_thing 24 = .ok (.ireturn, 1) := by decide +kernel
theorem d_W_thing_25 : decode b_W_thing 25 = .ok (.astore 4, 2) := by decide +kernel
theorem d_W_thing_27 : decode b_W_thing 27 = .ok (.iconst 4, 1) := by decide +kernel
theorem d_W_thing_28 : decode b_W_thing 28 = .ok (.ireturn, 1) := by decide +kernel
theorem d_W_thing_29 : decode b_W_thing 29 = .ok (.iconst 0, 1) := by decide +kernel
theorem d_W_thing_30 : decode b_W_thing 30 = .ok (.ireturn, 1) := by decide +kernel
theorem d_W_zone_0 : decode b_W_zone 0 = .ok (.aload_n 2, 1) := by decide +kernel
theorem d_W_zone_1 : decode b_W_zone 1 = .ok (.iconst 0, 1) := by decide +kernel
theorem d_W_zone_2 : decode b_W_zone 2 = .ok (.aload_n 0, 1) := by decide +kernel
theorem d_W_zone_3 : decode b_W_zone 3 = .ok (.iload_n 1, 1) := by decide +kernel
theorem d_W_zone_4 : decode b_W_zone 4 = .ok (.invokevirtual 87, 3) := by decide +kernel
theorem d_W_zone_7 : decode b_W_zone 7 = .ok (.i2l, 1) := by decide +kernel
theorem d_W_zone_8 : decode b_W_zone 8 = .ok (.lastore, 1) := by decide +kernel
theorem d_W_zone_9 : decode b_W_zone 9 = .ok (.goto 15, 3) := by decide +kernel
theorem d_W_zone_12 : decode b_W_zone 12 = .ok (.astore_n 3, 1) := by decide +kernel
theorem d_W_zone_13 : decode b_W_zone 13 = .ok (.iconst 1, 1) := by decide +kernel
theorem d_W_zone_14 : decode b_W_zone 14 = .ok (.ireturn, 1) := by decide +kernel
theorem d_W_zone_15 : decode b_W_zone 15 = .ok (.astore_n 3, 1) := by decide +kernel
theorem d_W_zone_16 : decode b_W_zone 16 = .ok (.iconst 2, 1) := by decide +kernel
theorem d_W_zone_17 : decode b_W_zone 17 = .ok (.ireturn, 1) := by decide +kernel
theorem d_W_zone_18 : decode b_W_zone 18 = .ok (.astore_n 3, 1) := by decide +kernel
theorem d_W_zone_19 : decode b_W_zone 19 = .ok (.iconst 3, 1) := by decide +kernel
theorem d_W_zone_20 : decode b_W_zone 20 = .ok (.ireturn, 1) := by decide +kernel
theorem d_W_zone_21 : decode b_W_zone 21 = .ok (.astore_n 3, 1) := by decide +kernel
theorem d_W_zone_22 : decode b_W_zone 22 = .ok (.iconst 4, 1) := by decide +kernel
theorem d_W_zone_23 : decode b_W_zone 23 = .ok (.ireturn, 1) := by decide +kernel
theorem d_W_zone_24 : decode b_W_zone 24 = .ok (.iconst 0, 1) := by decide +kernel
theorem d_W_zone_25 : decode b_W_zone 25 = .ok (.ireturn, 1) := by decide +kernel
