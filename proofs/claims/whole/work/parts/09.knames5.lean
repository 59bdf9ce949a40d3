abbrev cXW_drop : ByteArray := prog_1_method_8_code
def yXW_drop : MethodName := ⟨RXW, "drop", "(I)I"⟩
set_option maxRecDepth 100000 in
theorem qXW_drop : Cond.code yXW_drop cXW_drop 4 (some .int) ∈ lg_tbl := fx_c 555 rfl
theorem hdXW_drop : yXW_drop.cls = RXW ∧ yXW_drop.cls ≠ "java/lang/invoke/MethodHandle" ∧ yXW_drop.cls ≠ "java/lang/invoke/VarHandle" ∧ (parseMethodDescriptor yXW_drop.desc).map (fun d => d.parameters.length) = some 1 := by decide +kernel
theorem dXW_drop_0 : decode cXW_drop 0 = .ok (.aload_n 0, 1) := by decide +kernel
theorem dXW_drop_1 : decode cXW_drop 1 = .ok (.iload_n 1, 1) := by decide +kernel
theorem dXW_drop_2 : decode cXW_drop 2 = .ok (.invokevirtual 35, 3) := by decide +kernel
theorem dXW_drop_5 : decode cXW_drop 5 = .ok (.astore_n 2, 1) := by decide +kernel
theorem dXW_drop_6 : decode cXW_drop 6 = .ok (.aload_n 2, 1) := by decide +kernel
theorem dXW_drop_7 : decode cXW_drop 7 = .ok (.ifnonnull 5, 3) := by decide +kernel
theorem dXW_drop_10 : decode cXW_drop 10 = .ok (.iconst (-1), 1) := by decide +kernel
theorem dXW_drop_11 : decode cXW_drop 11 = .ok (.ireturn, 1) := by decide +kernel
theorem dXW_drop_12 : decode cXW_drop 12 = .ok (.aload_n 2, 1) := by decide +kernel
theorem dXW_drop_13 : decode cXW_drop 13 = .ok (.getfield 96, 3) := by decide +kernel
theorem dXW_drop_16 : decode cXW_drop 16 = .ok (.invokevirtual 100, 3) := by decide +kernel
theorem dXW_drop_19 : decode cXW_drop 19 = .ok (.istore_n 3, 1) := by decide +kernel
theorem dXW_drop_20 : decode cXW_drop 20 = .ok (.aload_n 2, 1) := by decide +kernel
theorem dXW_drop_21 : decode cXW_drop 21 = .ok (.getfield 96, 3) := by decide +kernel
theorem dXW_drop_24 : decode cXW_drop 24 = .ok (.invokevirtual 105, 3) := by decide +kernel
theorem dXW_drop_27 : decode cXW_drop 27 = .ok (.iload_n 3, 1) := by decide +kernel
theorem dXW_drop_28 : decode cXW_drop 28 = .ok (.ireturn, 1) := by decide +kernel
abbrev cXW_held : ByteArray := prog_1_method_9_code
def yXW_held : MethodName := ⟨RXW, "held", "(I)I"⟩
set_option maxRecDepth 100000 in
theorem qXW_held : Cond.code yXW_held cXW_held 3 (some .int) ∈ lg_tbl := fx_c 564 rfl
theorem hdXW_held : yXW_held.cls = RXW ∧ yXW_held.cls ≠ "java/lang/invoke/MethodHandle" ∧ yXW_held.cls ≠ "java/lang/invoke/VarHandle" ∧ (parseMethodDescriptor yXW_held.desc).map (fun d => d.parameters.length) = some 1 := by decide +kernel
theorem dXW_held_0 : decode cXW_held 0 = .ok (.aload_n 0, 1) := by decide +kernel
theorem dXW_held_1 : decode cXW_held 1 = .ok (.iload_n 1, 1) := by decide +kernel
theorem dXW_held_2 : decode cXW_held 2 = .ok (.invokevirtual 35, 3) := by decide +kernel
theorem dXW_held_5 : decode cXW_held 5 = .ok (.astore_n 2, 1) := by decide +kernel
theorem dXW_held_6 : decode cXW_held 6 = .ok (.aload_n 2, 1) := by decide +kernel
theorem dXW_held_7 : decode cXW_held 7 = .ok (.ifnonnull 7, 3) := by decide +kernel
theorem dXW_held_10 : decode cXW_held 10 = .ok (.iconst (-1), 1) := by decide +kernel
theorem dXW_held_11 : decode cXW_held 11 = .ok (.goto 10, 3) := by decide +kernel
theorem dXW_held_14 : decode cXW_held 14 = .ok (.aload_n 2, 1) := by decide +kernel
theorem dXW_held_15 : decode cXW_held 15 = .ok (.getfield 108, 3) := by decide +kernel
theorem dXW_held_18 : decode cXW_held 18 = .ok (.getfield 47, 3) := by decide +kernel
theorem dXW_held_21 : decode cXW_held 21 = .ok (.ireturn, 1) := by decide +kernel
abbrev cXW_waiting : ByteArray := prog_1_method_10_code
def yXW_waiting : MethodName := ⟨RXW, "waiting", "(I)I"⟩
set_option maxRecDepth 100000 in
theorem qXW_waiting : Cond.code yXW_waiting cXW_waiting 3 (some .int) ∈ lg_tbl := fx_c 568 rfl
theorem hdXW_waiting : yXW_waiting.cls = RXW ∧ yXW_waiting.cls ≠ "java/lang/invoke/MethodHandle" ∧ yXW_waiting.cls ≠ "java/lang/invoke/VarHandle" ∧ (parseMethodDescriptor yXW_waiting.desc).map (fun d => d.parameters.length) = some 1 := by decide +kernel
theorem dXW_waiting_0 : decode cXW_waiting 0 = .ok (.aload_n 0, 1) := by decide +kernel
theorem dXW_waiting_1 : decode cXW_waiting 1 = .ok (.iload_n 1, 1) := by decide +kernel
theorem dXW_waiting_2 : decode cXW_waiting 2 = .ok (.invokevirtual 35, 3) := by decide +kernel
theorem dXW_waiting_5 : decode cXW_waiting 5 = .ok (.astore_n 2, 1) := by decide +kernel
theorem dXW_waiting_6 : decode cXW_waiting 6 = .ok (.aload_n 2, 1) := by decide +kernel
theorem dXW_waiting_7 : decode cXW_waiting 7 = .ok (.ifnonnull 7, 3) := by decide +kernel
theorem dXW_waiting_10 : decode cXW_waiting 10 = .ok (.iconst (-1), 1) := by decide +kernel
theorem dXW_waiting_11 : decode cXW_waiting 11 = .ok (.goto 10, 3) := by decide +kernel
theorem dXW_waiting_14 : decode cXW_waiting 14 = .ok (.aload_n 2, 1) := by decide +kernel
theorem dXW_waiting_15 : decode cXW_waiting 15 = .ok (.getfield 96, 3) := by decide +kernel
theorem dXW_waiting_18 : decode cXW_waiting 18 = .ok (.invokevirtual 100, 3) := by decide +kernel
theorem dXW_waiting_21 : decode cXW_waiting 21 = .ok (.ireturn, 1) := by decide +kernel
abbrev cXW_has : ByteArray := prog_1_method_11_code
def yXW_has : MethodName := ⟨RXW, "has", "(IJ)Z"⟩
set_option maxRecDepth 100000 in
theorem qXW_has : Cond.code yXW_has cXW_has 5 (some .boolean) ∈ lg_tbl := fx_c 572 rfl
theorem hdXW_has : yXW_has.cls = RXW ∧ yXW_has.cls ≠ "java/lang/invoke/MethodHandle" ∧ yXW_has.cls ≠ "java/lang/invoke/VarHandle" ∧ (parseMethodDescriptor yXW_has.desc).map (fun d => d.parameters.length) = some 2 := by decide +kernel
theorem dXW_has_0 : decode cXW_has 0 = .ok (.aload_n 0, 1) := by decide +kernel
theorem dXW_has_1 : decode cXW_has 1 = .ok (.iload_n 1, 1) := by decide +kernel
theorem dXW_has_2 : decode cXW_has 2 = .ok (.invokevirtual 35, 3) := by decide +kernel
theorem dXW_has_5 : decode cXW_has 5 = .ok (.astore 4, 2) := by decide +kernel
theorem dXW_has_7 : decode cXW_has 7 = .ok (.aload 4, 2) := by decide +kernel
theorem dXW_has_9 : decode cXW_has 9 = .ok (.ifnull 23, 3) := by decide +kernel
theorem dXW_has_12 : decode cXW_has 12 = .ok (.aload 4, 2) := by decide +kernel
theorem dXW_has_14 : decode cXW_has 14 = .ok (.aload_n 0, 1) := by decide +kernel
theorem dXW_has_15 : decode cXW_has 15 = .ok (.getfield 10, 3) := by decide +kernel
theorem dXW_has_18 : decode cXW_has 18 = .ok (.lload_n 2, 1) := by decide +kernel
theorem dXW_has_19 : decode cXW_has 19 = .ok (.invokevirtual 111, 3) := by decide +kernel
theorem dXW_has_22 : decode cXW_has 22 = .ok (.invokevirtual 115, 3) := by decide +kernel
theorem dXW_has_25 : decode cXW_has 25 = .ok (.ifCond .eq 7, 3) := by decide +kernel
theorem dXW_has_28 : decode cXW_has 28 = .ok (.iconst 1, 1) := by decide +kernel
theorem dXW_has_29 : decode cXW_has 29 = .ok (.goto 4, 3) := by decide +kernel
theorem dXW_has_32 : decode cXW_has 32 = .ok (.iconst 0, 1) := by decide +kernel
theorem dXW_has_33 : decode cXW_has 33 = .ok (.ireturn, 1) := by decide +kernel
abbrev cXW_memberAt : ByteArray := prog_1_method_20_code
def yXW_memberAt : MethodName := ⟨RXW, "memberAt", "(II)LHashLinkedWeb$Member;"⟩
set_option maxRecDepth 100000 in
theorem qXW_memberAt : Cond.code yXW_memberAt cXW_memberAt 4 (some (.object "HashLinkedWeb$Member")) ∈ lg_tbl := fx_c 582 rfl
theorem hdXW_memberAt : yXW_memberAt.cls = RXW ∧ yXW_memberAt.cls ≠ "java/lang/invoke/MethodHandle" ∧ yXW_memberAt.cls ≠ "java/lang/invoke/VarHandle" ∧ (parseMethodDescriptor yXW_memberAt.desc).map (fun d => d.parameters.length) = some 2 := by decide +kernel
theorem dXW_memberAt_0 : decode cXW_memberAt 0 = .ok (.aload_n 0, 1) := by decide +kernel
theorem dXW_memberAt_1 : decode cXW_memberAt 1 = .ok (.iload_n 1, 1) := by decide +kernel
theorem dXW_memberAt_2 : decode cXW_memberAt 2 = .ok (.invokevirtual 35, 3) := by decide +kernel
theorem dXW_memberAt_5 : decode cXW_memberAt 5 = .ok (.astore_n 3, 1) := by decide +kernel
theorem dXW_memberAt_6 : decode cXW_memberAt 6 = .ok (.aload_n 3, 1) := by decide +kernel
theorem dXW_memberAt_7 : decode cXW_memberAt 7 = .ok (.ifnonnull 7, 3) := by decide +kernel
theorem dXW_memberAt_10 : decode cXW_memberAt 10 = .ok (.aconst_null, 1) := by decide +kernel
theorem dXW_memberAt_11 : decode cXW_memberAt 11 = .ok (.goto 11, 3) := by decide +kernel
theorem dXW_memberAt_14 : decode cXW_memberAt 14 = .ok (.aload_n 3, 1) := by decide +kernel
theorem dXW_memberAt_15 : decode cXW_memberAt 15 = .ok (.getfield 108, 3) := by decide +kernel
theorem dXW_memberAt_18 : decode cXW_memberAt 18 = .ok (.iload_n 2, 1) := by decide +kernel
theorem dXW_memberAt_19 : decode cXW_memberAt 19 = .ok (.invokevirtual 155, 3) := by decide +kernel
theorem dXW_memberAt_22 : decode cXW_memberAt 22 = .ok (.areturn, 1) := by decide +kernel
abbrev cXW_hashAt : ByteArray := prog_1_method_12_code
def yXW_hashAt : MethodName := ⟨RXW, "hashAt", "(II)J"⟩
set_option maxRecDepth 100000 in
theorem qXW_hashAt : Cond.code yXW_hashAt cXW_hashAt 4 (some .long) ∈ lg_tbl := fx_c 578 rfl
theorem hdXW_hashAt : yXW_hashAt.cls = RXW ∧ yXW_hashAt.cls ≠ "java/lang/invoke/MethodHandle" ∧ yXW_hashAt.cls ≠ "java/lang/invoke/VarHandle" ∧ (parseMethodDescriptor yXW_hashAt.desc).map (fun d => d.parameters.length) = some 2 := by decide +kernel
theorem dXW_hashAt_0 : decode cXW_hashAt 0 = .ok (.aload_n 0, 1) := by decide +kernel
theorem dXW_hashAt_1 : decode cXW_hashAt 1 = .ok (.iload_n 1, 1) := by decide +kernel
theorem dXW_hashAt_2 : decode cXW_hashAt 2 = .ok (.iload_n 2, 1) := by decide +kernel
theorem dXW_hashAt_3 : decode cXW_hashAt 3 = .ok (.invokevirtual 119, 3) := by decide +kernel
theorem dXW_hashAt_6 : decode cXW_hashAt 6 = .ok (.astore_n 3, 1) := by decide +kernel
theorem dXW_hashAt_7 : decode cXW_hashAt 7 = .ok (.aload_n 3, 1) := by decide +kernel
theorem dXW_hashAt_8 : decode cXW_hashAt 8 = .ok (.ifnonnull 7, 3) := by decide +kernel
theorem dXW_hashAt_11 : decode cXW_hashAt 11 = .ok (.lconst 0, 1) := by decide +kernel
theorem dXW_hashAt_12 : decode cXW_hashAt 12 = .ok (.goto 10, 3) := by decide +kernel
theorem dXW_hashAt_15 : decode cXW_hashAt 15 = .ok (.aload_n 3, 1) := by decide +kernel
theorem dXW_hashAt_16 : decode cXW_hashAt 16 = .ok (.getfield 123, 3) := by decide +kernel
theorem dXW_hashAt_19 : decode cXW_hashAt 19 = .ok (.getfield 75, 3) := by decide +kernel
theorem dXW_hashAt_22 : decode cXW_hashAt 22 = .ok (.lreturn, 1) := by decide +kernel
abbrev cXW_about : ByteArray := prog_1_method_13_code
def yXW_about : MethodName := ⟨RXW, "about", "(III)I"⟩
set_option maxRecDepth 100000 in
theorem qXW_about : Cond.code yXW_about cXW_about 5 (some .int) ∈ lg_tbl := fx_c 586 rfl
theorem hdXW_about : yXW_about.cls = RXW ∧ yXW_about.cls ≠ "java/lang/invoke/MethodHandle" ∧ yXW_about.cls ≠ "java/lang/invoke/VarHandle" ∧ (parseMethodDescriptor yXW_about.desc).map (fun d => d.parameters.length) = some 3 := by decide +kernel
theorem dXW_about_0 : decode cXW_about 0 = .ok (.aload_n 0, 1) := by decide +kernel
theorem dXW_about_1 : decode cXW_about 1 = .ok (.iload_n 1, 1) := by decide +kernel
theorem dXW_about_2 : decode cXW_about 2 = .ok (.iload_n 2, 1) := by decide +kernel
theorem dXW_about_3 : decode cXW_about 3 = .ok (.invokevirtual 119, 3) := by decide +kernel
theorem dXW_about_6 : decode cXW_about 6 = .ok (.astore 4, 2) := by decide +kernel
theorem dXW_about_8 : decode cXW_about 8 = .ok (.aload 4, 2) := by decide +kernel
theorem dXW_about_10 : decode cXW_about 10 = .ok (.ifnonnull 5, 3) := by decide +kernel
theorem dXW_about_13 : decode cXW_about 13 = .ok (.iconst (-1), 1) := by decide +kernel
theorem dXW_about_14 : decode cXW_about 14 = .ok (.ireturn, 1) := by decide +kernel
theorem dXW_about_15 : decode cXW_about 15 = .ok (.iload_n 3, 1) := by decide +kernel
theorem dXW_about_16 : decode cXW_about 16 = .ok (.tableswitch 92 0 5 #[40, 49, 58, 67, 76, 86], 40) := by decide +kernel
theorem dXW_about_56 : decode cXW_about 56 = .ok (.aload 4, 2) := by decide +kernel
theorem dXW_about_58 : decode cXW_about 58 = .ok (.getfield 123, 3) := by decide +kernel
theorem dXW_about_61 : decode cXW_about 61 = .ok (.getfield 129, 3) := by decide +kernel
theorem dXW_about_64 : decode cXW_about 64 = .ok (.ireturn, 1) := by decide +kernel
theorem dXW_about_65 : decode cXW_about 65 = .ok (.aload 4, 2) := by decide +kernel
theorem dXW_about_67 : decode cXW_about 67 = .ok (.getfield 123, 3) := by decide +kernel
theorem dXW_about_70 : decode cXW_about 70 = .ok (.getfield 132, 3) := by decide +kernel
theorem dXW_about_73 : decode cXW_about 73 = .ok (.ireturn, 1) := by decide +kernel
theorem dXW_about_74 : decode cXW_about 74 = .ok (.aload 4, 2) := by decide +kernel
theorem dXW_about_76 : decode cXW_about 76 = .ok (.getfield 123, 3) := by decide +kernel
theorem dXW_about_79 : decode cXW_about 79 = .ok (.getfield 135, 3) := by decide +kernel
theorem dXW_about_82 : decode cXW_about 82 = .ok (.ireturn, 1) := by decide +kernel
theorem dXW_about_83 : decode cXW_about 83 = .ok (.aload 4, 2) := by decide +kernel
theorem dXW_about_85 : decode cXW_about 85 = .ok (.getfield 123, 3) := by decide +kernel
theorem dXW_about_88 : decode cXW_about 88 = .ok (.getfield 138, 3) := by decide +kernel
theorem dXW_about_91 : decode cXW_about 91 = .ok (.ireturn, 1) := by decide +kernel
theorem dXW_about_92 : decode cXW_about 92 = .ok (.aload 4, 2) := by decide +kernel
theorem dXW_about_94 : decode cXW_about 94 = .ok (.getfield 123, 3) := by decide +kernel
theorem dXW_about_97 : decode cXW_about 97 = .ok (.getfield 141, 3) := by decide +kernel
theorem dXW_about_100 : decode cXW_about 100 = .ok (.arraylength, 1) := by decide +kernel
theorem dXW_about_101 : decode cXW_about 101 = .ok (.ireturn, 1) := by decide +kernel
theorem dXW_about_102 : decode cXW_about 102 = .ok (.aload 4, 2) := by decide +kernel
theorem dXW_about_104 : decode cXW_about 104 = .ok (.getfield 145, 3) := by decide +kernel
theorem dXW_about_107 : decode cXW_about 107 = .ok (.ireturn, 1) := by decide +kernel
theorem dXW_about_108 : decode cXW_about 108 = .ok (.iconst (-1), 1) := by decide +kernel
theorem dXW_about_109 : decode cXW_about 109 = .ok (.ireturn, 1) := by decide +kernel
abbrev cXW_linkAt : ByteArray := prog_1_method_14_code
def yXW_linkAt : MethodName := ⟨RXW, "linkAt", "(III)J"⟩
set_option maxRecDepth 100000 in
theorem qXW_linkAt : Cond.code yXW_linkAt cXW_linkAt 5 (some .long) ∈ lg_tbl := fx_c 590 rfl
theorem hdXW_linkAt : yXW_linkAt.cls = RXW ∧ yXW_linkAt.cls ≠ "java/lang/invoke/MethodHandle" ∧ yXW_linkAt.cls ≠ "java/lang/invoke/VarHandle" ∧ (parseMethodDescriptor yXW_linkAt.desc).map (fun d => d.parameters.length) = some 3 := by decide +kernel
theorem dXW_linkAt_0 : decode cXW_linkAt 0 = .ok (.aload_n 0, 1) := by decide +kernel
theorem dXW_linkAt_1 : decode cXW_linkAt 1 = .ok (.iload_n 1, 1) := by decide +kernel
theorem dXW_linkAt_2 : decode cXW_linkAt 2 = .ok (.iload_n 2, 1) := by decide +kernel
theorem dXW_linkAt_3 : decode cXW_linkAt 3 = .ok (.invokevirtual 119, 3) := by decide +kernel
theorem dXW_linkAt_6 : decode cXW_linkAt 6 = .ok (.astore 4, 2) := by decide +kernel
theorem dXW_linkAt_8 : decode cXW_linkAt 8 = .ok (.aload 4, 2) := by decide +kernel
theorem dXW_linkAt_10 : decode cXW_linkAt 10 = .ok (.ifnull 20, 3) := by decide +kernel
theorem dXW_linkAt_13 : decode cXW_linkAt 13 = .ok (.iload_n 3, 1) := by decide +kernel
theorem dXW_linkAt_14 : decode cXW_linkAt 14 = .ok (.ifCond .lt 16, 3) := by decide +kernel
theorem dXW_linkAt_17 : decode cXW_linkAt 17 = .ok (.iload_n 3, 1) := by decide +kernel
theorem dXW_linkAt_18 : decode cXW_linkAt 18 = .ok (.aload 4, 2) := by decide +kernel
theorem dXW_linkAt_20 : decode cXW_linkAt 20 = .ok (.getfield 123, 3) := by decide +kernel
theorem dXW_linkAt_23 : decode cXW_linkAt 23 = .ok (.getfield 141, 3) := by decide +kernel
theorem dXW_linkAt_26 : decode cXW_linkAt 26 = .ok (.arraylength, 1) := by decide +kernel
theorem dXW_linkAt_27 : decode cXW_linkAt 27 = .ok (.if_icmp .lt 5, 3) := by decide +kernel
theorem dXW_linkAt_30 : decode cXW_linkAt 30 = .ok (.lconst 0, 1) := by decide +kernel
theorem dXW_linkAt_31 : decode cXW_linkAt 31 = .ok (.lreturn, 1) := by decide +kernel
theorem dXW_linkAt_32 : decode cXW_linkAt 32 = .ok (.aload 4, 2) := by decide +kernel
theorem dXW_linkAt_34 : decode cXW_linkAt 34 = .ok (.getfield 123, 3) := by decide +kernel
theorem dXW_linkAt_37 : decode cXW_linkAt 37 = .ok (.getfield 141, 3) := by decide +kernel
theorem dXW_linkAt_40 : decode cXW_linkAt 40 = .ok (.iload_n 3, 1) := by decide +kernel
theorem dXW_linkAt_41 : decode cXW_linkAt 41 = .ok (.laload, 1) := by decide +kernel
theorem dXW_linkAt_42 : decode cXW_linkAt 42 = .ok (.lreturn, 1) := by decide +kernel
abbrev cXW_heads : ByteArray := prog_1_method_15_code
def yXW_heads : MethodName := ⟨RXW, "heads", "(I)I"⟩
set_option maxRecDepth 100000 in
theorem qXW_heads : Cond.code yXW_heads cXW_heads 3 (some .int) ∈ lg_tbl := fx_c 594 rfl
theorem hdXW_heads : yXW_heads.cls = RXW ∧ yXW_heads.cls ≠ "java/lang/invoke/MethodHandle" ∧ yXW_heads.cls ≠ "java/lang/invoke/VarHandle" ∧ (parseMethodDescriptor yXW_heads.desc).map (fun d => d.parameters.length) = some 1 := by decide +kernel
theorem dXW_heads_0 : decode cXW_heads 0 = .ok (.aload_n 0, 1) := by decide +kernel
theorem dXW_heads_1 : decode cXW_heads 1 = .ok (.iload_n 1, 1) := by decide +kernel
theorem dXW_heads_2 : decode cXW_heads 2 = .ok (.invokevirtual 35, 3) := by decide +kernel
theorem dXW_heads_5 : decode cXW_heads 5 = .ok (.astore_n 2, 1) := by decide +kernel
theorem dXW_heads_6 : decode cXW_heads 6 = .ok (.aload_n 2, 1) := by decide +kernel
theorem dXW_heads_7 : decode cXW_heads 7 = .ok (.ifnonnull 7, 3) := by decide +kernel
theorem dXW_heads_10 : decode cXW_heads 10 = .ok (.iconst (-1), 1) := by decide +kernel
theorem dXW_heads_11 : decode cXW_heads 11 = .ok (.goto 10, 3) := by decide +kernel
theorem dXW_heads_14 : decode cXW_heads 14 = .ok (.aload_n 2, 1) := by decide +kernel
theorem dXW_heads_15 : decode cXW_heads 15 = .ok (.getfield 43, 3) := by decide +kernel
theorem dXW_heads_18 : decode cXW_heads 18 = .ok (.getfield 47, 3) := by decide +kernel
theorem dXW_heads_21 : decode cXW_heads 21 = .ok (.ireturn, 1) := by decide +kernel
abbrev cXW_headAt : ByteArray := prog_1_method_16_code
def yXW_headAt : MethodName := ⟨RXW, "headAt", "(II)J"⟩
set_option maxRecDepth 100000 in
theorem qXW_headAt : Cond.code yXW_headAt cXW_headAt 4 (some .long) ∈ lg_tbl := fx_c 598 rfl
theorem hdXW_headAt : yXW_headAt.cls = RXW ∧ yXW_headAt.cls ≠ "java/lang/invoke/MethodHandle" ∧ yXW_headAt.cls ≠ "java/lang/invoke/VarHandle" ∧ (parseMethodDescriptor yXW_headAt.desc).map (fun d => d.parameters.length) = some 2 := by decide +kernel
theorem dXW_headAt_0 : decode cXW_headAt 0 = .ok (.aload_n 0, 1) := by decide +kernel
theorem dXW_headAt_1 : decode cXW_headAt 1 = .ok (.iload_n 1, 1) := by decide +kernel
theorem dXW_headAt_2 : decode cXW_headAt 2 = .ok (.invokevirtual 35, 3) := by decide +kernel
theorem dXW_headAt_5 : decode cXW_headAt 5 = .ok (.astore_n 3, 1) := by decide +kernel
theorem dXW_headAt_6 : decode cXW_headAt 6 = .ok (.aload_n 3, 1) := by decide +kernel
theorem dXW_headAt_7 : decode cXW_headAt 7 = .ok (.ifnonnull 7, 3) := by decide +kernel
theorem dXW_headAt_10 : decode cXW_headAt 10 = .ok (.lconst 0, 1) := by decide +kernel
theorem dXW_headAt_11 : decode cXW_headAt 11 = .ok (.goto 8, 3) := by decide +kernel
theorem dXW_headAt_14 : decode cXW_headAt 14 = .ok (.aload_n 3, 1) := by decide +kernel
theorem dXW_headAt_15 : decode cXW_headAt 15 = .ok (.iload_n 2, 1) := by decide +kernel
theorem dXW_headAt_16 : decode cXW_headAt 16 = .ok (.invokestatic 59, 3) := by decide +kernel
theorem dXW_headAt_19 : decode cXW_headAt 19 = .ok (.lreturn, 1) := by decide +kernel
abbrev cXRe_stateOf : ByteArray := prog_7_method_12_code
def yXRe_stateOf : MethodName := ⟨RXRe, "stateOf", "(I)I"⟩
set_option maxRecDepth 100000 in
theorem qXRe_stateOf : Cond.code yXRe_stateOf cXRe_stateOf 5 (some .int) ∈ lg_tbl := fx_c 606 rfl
theorem hdXRe_stateOf : yXRe_stateOf.cls = RXRe ∧ yXRe_stateOf.cls ≠ "java/lang/invoke/MethodHandle" ∧ yXRe_stateOf.cls ≠ "java/lang/invoke/VarHandle" ∧ (parseMethodDescriptor yXRe_stateOf.desc).map (fun d => d.parameters.length) = some 1 := by decide +kernel
theorem dXRe_stateOf_0 : decode cXRe_stateOf 0 = .ok (.iconst 0, 1) := by decide +kernel
theorem dXRe_stateOf_1 : decode cXRe_stateOf 1 = .ok (.istore_n 2, 1) := by decide +kernel
theorem dXRe_stateOf_2 : decode cXRe_stateOf 2 = .ok (.iconst 0, 1) := by decide +kernel
theorem dXRe_stateOf_3 : decode cXRe_stateOf 3 = .ok (.istore_n 3, 1) := by decide +kernel
theorem dXRe_stateOf_4 : decode cXRe_stateOf 4 = .ok (.iload_n 3, 1) := by decide +kernel
theorem dXRe_stateOf_5 : decode cXRe_stateOf 5 = .ok (.aload_n 0, 1) := by decide +kernel
theorem dXRe_stateOf_6 : decode cXRe_stateOf 6 = .ok (.getfield 12, 3) := by decide +kernel
theorem dXRe_stateOf_9 : decode cXRe_stateOf 9 = .ok (.getfield 137, 3) := by decide +kernel
theorem dXRe_stateOf_12 : decode cXRe_stateOf 12 = .ok (.if_icmp .ge 60, 3) := by decide +kernel
theorem dXRe_stateOf_15 : decode cXRe_stateOf 15 = .ok (.aload_n 0, 1) := by decide +kernel
theorem dXRe_stateOf_16 : decode cXRe_stateOf 16 = .ok (.getfield 12, 3) := by decide +kernel
theorem dXRe_stateOf_19 : decode cXRe_stateOf 19 = .ok (.getfield 139, 3) := by decide +kernel
theorem dXRe_stateOf_22 : decode cXRe_stateOf 22 = .ok (.iload_n 3, 1) := by decide +kernel
theorem dXRe_stateOf_23 : decode cXRe_stateOf 23 = .ok (.aaload, 1) := by decide +kernel
theorem dXRe_stateOf_24 : decode cXRe_stateOf 24 = .ok (.getfield 77, 3) := by decide +kernel
theorem dXRe_stateOf_27 : decode cXRe_stateOf 27 = .ok (.astore 4, 2) := by decide +kernel
theorem dXRe_stateOf_29 : decode cXRe_stateOf 29 = .ok (.aload 4, 2) := by decide +kernel
theorem dXRe_stateOf_31 : decode cXRe_stateOf 31 = .ok (.iconst 0, 1) := by decide +kernel
theorem dXRe_stateOf_32 : decode cXRe_stateOf 32 = .ok (.iload_n 1, 1) := by decide +kernel
theorem dXRe_stateOf_33 : decode cXRe_stateOf 33 = .ok (.invokevirtual 146, 3) := by decide +kernel
theorem dXRe_stateOf_36 : decode cXRe_stateOf 36 = .ok (.ifCond .eq 12, 3) := by decide +kernel
theorem dXRe_stateOf_39 : decode cXRe_stateOf 39 = .ok (.aload 4, 2) := by decide +kernel
theorem dXRe_stateOf_41 : decode cXRe_stateOf 41 = .ok (.getfield 150, 3) := by decide +kernel
theorem dXRe_stateOf_44 : decode cXRe_stateOf 44 = .ok (.istore_n 2, 1) := by decide +kernel
theorem dXRe_stateOf_45 : decode cXRe_stateOf 45 = .ok (.goto 21, 3) := by decide +kernel
theorem dXRe_stateOf_48 : decode cXRe_stateOf 48 = .ok (.aload 4, 2) := by decide +kernel
theorem dXRe_stateOf_50 : decode cXRe_stateOf 50 = .ok (.iconst 1, 1) := by decide +kernel
theorem dXRe_stateOf_51 : decode cXRe_stateOf 51 = .ok (.iload_n 1, 1) := by decide +kernel
theorem dXRe_stateOf_52 : decode cXRe_stateOf 52 = .ok (.invokevirtual 146, 3) := by decide +kernel
theorem dXRe_stateOf_55 : decode cXRe_stateOf 55 = .ok (.ifCond .eq 11, 3) := by decide +kernel
theorem dXRe_stateOf_58 : decode cXRe_stateOf 58 = .ok (.iload_n 2, 1) := by decide +kernel
theorem dXRe_stateOf_59 : decode cXRe_stateOf 59 = .ok (.aload 4, 2) := by decide +kernel
theorem dXRe_stateOf_61 : decode cXRe_stateOf 61 = .ok (.getfield 150, 3) := by decide +kernel
theorem dXRe_stateOf_64 : decode cXRe_stateOf 64 = .ok (.iadd, 1) := by decide +kernel
theorem dXRe_stateOf_65 : decode cXRe_stateOf 65 = .ok (.istore_n 2, 1) := by decide +kernel
theorem dXRe_stateOf_66 : decode cXRe_stateOf 66 = .ok (.iinc 3 1, 3) := by decide +kernel
theorem dXRe_stateOf_69 : decode cXRe_stateOf 69 = .ok (.goto (-65), 3) := by decide +kernel
theorem dXRe_stateOf_72 : decode cXRe_stateOf 72 = .ok (.iload_n 2, 1) := by decide +kernel
theorem dXRe_stateOf_73 : decode cXRe_stateOf 73 = .ok (.ireturn, 1) := by decide +kernel
abbrev cXW_value : ByteArray := prog_1_method_17_code
def yXW_value : MethodName := ⟨RXW, "value", "(II)I"⟩
set_option maxRecDepth 100000 in
theorem qXW_value : Cond.code yXW_value cXW_value 4 (some .int) ∈ lg_tbl := fx_c 602 rfl
theorem hdXW_value : yXW_value.cls = RXW ∧ yXW_value.cls ≠ "java/lang/invoke/MethodHandle" ∧ yXW_value.cls ≠ "java/lang/invoke/VarHandle" ∧ (parseMethodDescriptor yXW_value.desc).map (fun d => d.parameters.length) = some 2 := by decide +kernel
theorem dXW_value_0 : decode cXW_value 0 = .ok (.aload_n 0, 1) := by decide +kernel
theorem dXW_value_1 : decode cXW_value 1 = .ok (.iload_n 1, 1) := by decide +kernel
theorem dXW_value_2 : decode cXW_value 2 = .ok (.invokevirtual 35, 3) := by decide +kernel
theorem dXW_value_5 : decode cXW_value 5 = .ok (.astore_n 3, 1) := by decide +kernel
theorem dXW_value_6 : decode cXW_value 6 = .ok (.aload_n 3, 1) := by decide +kernel
theorem dXW_value_7 : decode cXW_value 7 = .ok (.ifnull 13, 3) := by decide +kernel
theorem dXW_value_10 : decode cXW_value 10 = .ok (.iload_n 2, 1) := by decide +kernel
theorem dXW_value_11 : decode cXW_value 11 = .ok (.ifCond .lt 9, 3) := by decide +kernel
theorem dXW_value_14 : decode cXW_value 14 = .ok (.iload_n 2, 1) := by decide +kernel
theorem dXW_value_15 : decode cXW_value 15 = .ok (.bipush 8, 2) := by decide +kernel
theorem dXW_value_17 : decode cXW_value 17 = .ok (.if_icmp .lt 7, 3) := by decide +kernel
theorem dXW_value_20 : decode cXW_value 20 = .ok (.iconst 0, 1) := by decide +kernel
theorem dXW_value_21 : decode cXW_value 21 = .ok (.goto 8, 3) := by decide +kernel
theorem dXW_value_24 : decode cXW_value 24 = .ok (.aload_n 3, 1) := by decide +kernel
theorem dXW_value_25 : decode cXW_value 25 = .ok (.iload_n 2, 1) := by decide +kernel
theorem dXW_value_26 : decode cXW_value 26 = .ok (.invokevirtual 148, 3) := by decide +kernel
theorem dXW_value_29 : decode cXW_value 29 = .ok (.ireturn, 1) := by decide +kernel
abbrev cXW_all : ByteArray := prog_1_method_18_code
def yXW_all : MethodName := ⟨RXW, "all", "()I"⟩
set_option maxRecDepth 100000 in
theorem qXW_all : Cond.code yXW_all cXW_all 1 (some .int) ∈ lg_tbl := fx_c 611 rfl
theorem hdXW_all : yXW_all.cls = RXW ∧ yXW_all.cls ≠ "java/lang/invoke/MethodHandle" ∧ yXW_all.cls ≠ "java/lang/invoke/VarHandle" ∧ (parseMethodDescriptor yXW_all.desc).map (fun d => d.parameters.length) = some 0 := by decide +kernel
theorem dXW_all_0 : decode cXW_all 0 = .ok (.aload_n 0, 1) := by decide +kernel
theorem dXW_all_1 : decode cXW_all 1 = .ok (.getfield 10, 3) := by decide +kernel
theorem dXW_all_4 : decode cXW_all 4 = .ok (.getfield 152, 3) := by decide +kernel
theorem dXW_all_7 : decode cXW_all 7 = .ok (.getfield 47, 3) := by decide +kernel
theorem dXW_all_10 : decode cXW_all 10 = .ok (.ireturn, 1) := by decide +kernel
abbrev cXM_init : ByteArray := prog_10_method_1_code
def yXM_init : MethodName := ⟨RXM, "<init>", "()V"⟩
set_option maxRecDepth 100000 in
theorem qXM_init : Cond.code yXM_init cXM_init 1 none ∈ lg_tbl := fx_c 616 rfl
theorem hdXM_init : yXM_init.cls = RXM ∧ yXM_init.cls ≠ "java/lang/invoke/MethodHandle" ∧ yXM_init.cls ≠ "java/lang/invoke/VarHandle" ∧ (parseMethodDescriptor yXM_init.desc).map (fun d => d.parameters.length) = some 0 := by decide +kernel
theorem dXM_init_0 : decode cXM_init 0 = .ok (.aload_n 0, 1) := by decide +kernel
theorem dXM_init_1 : decode cXM_init 1 = .ok (.invokespecial 1, 3) := by decide +kernel
theorem dXM_init_4 : decode cXM_init 4 = .ok (.aload_n 0, 1) := by decide +kernel
theorem dXM_init_5 : decode cXM_init 5 = .ok (.bipush 40, 2) := by decide +kernel
theorem dXM_init_7 : decode cXM_init 7 = .ok (.newarray .long, 2) := by decide +kernel
theorem dXM_init_9 : decode cXM_init 9 = .ok (.putfield 7, 3) := by decide +kernel
theorem dXM_init_12 : decode cXM_init 12 = .ok (.aload_n 0, 1) := by decide +kernel
theorem dXM_init_13 : decode cXM_init 13 = .ok (.bipush 40, 2) := by decide +kernel
theorem dXM_init_15 : decode cXM_init 15 = .ok (.newarray .int, 2) := by decide +kernel
theorem dXM_init_17 : decode cXM_init 17 = .ok (.putfield 13, 3) := by decide +kernel
theorem dXM_init_20 : decode cXM_init 20 = .ok (.aload_n 0, 1) := by decide +kernel
theorem dXM_init_21 : decode cXM_init 21 = .ok (.bipush 40, 2) := by decide +kernel
theorem dXM_init_23 : decode cXM_init 23 = .ok (.newarray .int, 2) := by decide +kernel
theorem dXM_init_25 : decode cXM_init 25 = .ok (.putfield 17, 3) := by decide +kernel
theorem dXM_init_28 : decode cXM_init 28 = .ok (.aload_n 0, 1) := by decide +kernel
theorem dXM_init_29 : decode cXM_init 29 = .ok (.bipush 40, 2) := by decide +kernel
theorem dXM_init_31 : decode cXM_init 31 = .ok (.newarray .int, 2) := by decide +kernel
theorem dXM_init_33 : decode cXM_init 33 = .ok (.putfield 20, 3) := by decide +kernel
theorem dXM_init_36 : decode cXM_init 36 = .ok (.aload_n 0, 1) := by decide +kernel
theorem dXM_init_37 : decode cXM_init 37 = .ok (.bipush 40, 2) := by decide +kernel
theorem dXM_init_39 : decode cXM_init 39 = .ok (.newarray .int, 2) := by decide +kernel
theorem dXM_init_41 : decode cXM_init 41 = .ok (.putfield 23, 3) := by decide +kernel
theorem dXM_init_44 : decode cXM_init 44 = .ok (.aload_n 0, 1) := by decide +kernel
theorem dXM_init_45 : decode cXM_init 45 = .ok (.bipush 40, 2) := by decide +kernel
theorem dXM_init_47 : decode cXM_init 47 = .ok (.newarray .int, 2) := by decide +kernel
theorem dXM_init_49 : decode cXM_init 49 = .ok (.putfield 26, 3) := by decide +kernel
theorem dXM_init_52 : decode cXM_init 52 = .ok (.aload_n 0, 1) := by decide +kernel
theorem dXM_init_53 : decode cXM_init 53 = .ok (.sipush 160, 3) := by decide +kernel
theorem dXM_init_56 : decode cXM_init 56 = .ok (.newarray .long, 2) := by decide +kernel
theorem dXM_init_58 : decode cXM_init 58 = .ok (.putfield 29, 3) := by decide +kernel
theorem dXM_init_61 : decode cXM_init 61 = .ok (.aload_n 0, 1) := by decide +kernel
theorem dXM_init_62 : decode cXM_init 62 = .ok (.bipush 40, 2) := by decide +kernel
theorem dXM_init_64 : decode cXM_init 64 = .ok (.newarray .long, 2) := by decide +kernel
theorem dXM_init_66 : decode cXM_init 66 = .ok (.putfield 32, 3) := by decide +kernel
theorem dXM_init_69 : decode cXM_init 69 = .ok (.aload_n 0, 1) := by decide +kernel
theorem dXM_init_70 : decode cXM_init 70 = .ok (.bipush 40, 2) := by decide +kernel
theorem dXM_init_72 : decode cXM_init 72 = .ok (.newarray .int, 2) := by decide +kernel
theorem dXM_init_74 : decode cXM_init 74 = .ok (.putfield 35, 3) := by decide +kernel
theorem dXM_init_77 : decode cXM_init 77 = .ok (.aload_n 0, 1) := by decide +kernel
theorem dXM_init_78 : decode cXM_init 78 = .ok (.iconst 4, 1) := by decide +kernel
theorem dXM_init_79 : decode cXM_init 79 = .ok (.newarray .long, 2) := by decide +kernel
theorem dXM_init_81 : decode cXM_init 81 = .ok (.putfield 38, 3) := by decide +kernel
theorem dXM_init_84 : decode cXM_init 84 = .ok (.aload_n 0, 1) := by decide +kernel
theorem dXM_init_85 : decode cXM_init 85 = .ok (.iconst 4, 1) := by decide +kernel
theorem dXM_init_86 : decode cXM_init 86 = .ok (.newarray .int, 2) := by decide +kernel
theorem dXM_init_88 : decode cXM_init 88 = .ok (.putfield 41, 3) := by decide +kernel
theorem dXM_init_91 : decode cXM_init 91 = .ok (.aload_n 0, 1) := by decide +kernel
theorem dXM_init_92 : decode cXM_init 92 = .ok (.bipush 24, 2) := by decide +kernel
theorem dXM_init_94 : decode cXM_init 94 = .ok (.newarray .long, 2) := by decide +kernel
theorem dXM_init_96 : decode cXM_init 96 = .ok (.putfield 44, 3) := by decide +kernel
theorem dXM_init_99 : decode cXM_init 99 = .ok (.aload_n 0, 1) := by decide +kernel
theorem dXM_init_100 : decode cXM_init 100 = .ok (.bipush 120, 2) := by decide +kernel
theorem dXM_init_102 : decode cXM_init 102 = .ok (.newarray .int, 2) := by decide +kernel
theorem dXM_init_104 : decode cXM_init 104 = .ok (.putfield 47, 3) := by decide +kernel
theorem dXM_init_107 : decode cXM_init 107 = .ok (.aload_n 0, 1) := by decide +kernel
theorem dXM_init_108 : decode cXM_init 108 = .ok (.bipush 96, 2) := by decide +kernel
theorem dXM_init_110 : decode cXM_init 110 = .ok (.newarray .long, 2) := by decide +kernel
theorem dXM_init_112 : decode cXM_init 112 = .ok (.putfield 50, 3) := by decide +kernel
theorem dXM_init_115 : decode cXM_init 115 = .ok (.aload_n 0, 1) := by decide +kernel
theorem dXM_init_116 : decode cXM_init 116 = .ok (.iconst 5, 1) := by decide +kernel
theorem dXM_init_117 : decode cXM_init 117 = .ok (.newarray .int, 2) := by decide +kernel
theorem dXM_init_119 : decode cXM_init 119 = .ok (.putfield 53, 3) := by decide +kernel
theorem dXM_init_122 : decode cXM_init 122 = .ok (.aload_n 0, 1) := by decide +kernel
theorem dXM_init_123 : decode cXM_init 123 = .ok (.iconst 4, 1) := by decide +kernel
theorem dXM_init_124 : decode cXM_init 124 = .ok (.newarray .long, 2) := by decide +kernel
theorem dXM_init_126 : decode cXM_init 126 = .ok (.putfield 56, 3) := by decide +kernel
theorem dXM_init_129 : decode cXM_init 129 = .ok (.aload_n 0, 1) := by decide +kernel
theorem dXM_init_130 : decode cXM_init 130 = .ok (.iconst 5, 1) := by decide +kernel
theorem dXM_init_131 : decode cXM_init 131 = .ok (.newarray .int, 2) := by decide +kernel
theorem dXM_init_133 : decode cXM_init 133 = .ok (.putfield 59, 3) := by decide +kernel
theorem dXM_init_136 : decode cXM_init 136 = .ok (.aload_n 0, 1) := by decide +kernel
theorem dXM_init_137 : decode cXM_init 137 = .ok (.iconst 4, 1) := by decide +kernel
theorem dXM_init_138 : decode cXM_init 138 = .ok (.newarray .long, 2) := by decide +kernel
theorem dXM_init_140 : decode cXM_init 140 = .ok (.putfield 62, 3) := by decide +kernel
theorem dXM_init_143 : decode cXM_init 143 = .ok (.aload_n 0, 1) := by decide +kernel
theorem dXM_init_144 : decode cXM_init 144 = .ok (.bipush 40, 2) := by decide +kernel
theorem dXM_init_146 : decode cXM_init 146 = .ok (.newarray .int, 2) := by decide +kernel
theorem dXM_init_148 : decode cXM_init 148 = .ok (.putfield 65, 3) := by decide +kernel
theorem dXM_init_151 : decode cXM_init 151 = .ok (.return_, 1) := by decide +kernel
