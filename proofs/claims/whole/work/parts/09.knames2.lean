abbrev cXRe_holds : ByteArray := prog_7_method_2_code
def yXRe_holds : MethodName := ⟨RXRe, "holds", "(LHashLinkedWeb$Member;)Z"⟩
set_option maxRecDepth 100000 in
theorem qXRe_holds : Cond.code yXRe_holds cXRe_holds 2 (some .boolean) ∈ lg_tbl := fx_c 295 rfl
theorem hdXRe_holds : yXRe_holds.cls = RXRe ∧ yXRe_holds.cls ≠ "java/lang/invoke/MethodHandle" ∧ yXRe_holds.cls ≠ "java/lang/invoke/VarHandle" ∧ (parseMethodDescriptor yXRe_holds.desc).map (fun d => d.parameters.length) = some 1 := by decide +kernel
theorem dXRe_holds_0 : decode cXRe_holds 0 = .ok (.aload_n 1, 1) := by decide +kernel
theorem dXRe_holds_1 : decode cXRe_holds 1 = .ok (.ifnull 21, 3) := by decide +kernel
theorem dXRe_holds_4 : decode cXRe_holds 4 = .ok (.aload_n 0, 1) := by decide +kernel
theorem dXRe_holds_5 : decode cXRe_holds 5 = .ok (.getfield 32, 3) := by decide +kernel
theorem dXRe_holds_8 : decode cXRe_holds 8 = .ok (.aload_n 1, 1) := by decide +kernel
theorem dXRe_holds_9 : decode cXRe_holds 9 = .ok (.getfield 36, 3) := by decide +kernel
theorem dXRe_holds_12 : decode cXRe_holds 12 = .ok (.invokestatic 42, 3) := by decide +kernel
theorem dXRe_holds_15 : decode cXRe_holds 15 = .ok (.ifCond .eq 7, 3) := by decide +kernel
theorem dXRe_holds_18 : decode cXRe_holds 18 = .ok (.iconst 1, 1) := by decide +kernel
theorem dXRe_holds_19 : decode cXRe_holds 19 = .ok (.goto 4, 3) := by decide +kernel
theorem dXRe_holds_22 : decode cXRe_holds 22 = .ok (.iconst 0, 1) := by decide +kernel
theorem dXRe_holds_23 : decode cXRe_holds 23 = .ok (.ireturn, 1) := by decide +kernel
abbrev cXOp_linksGrow : ByteArray := prog_6_method_4_code
def yXOp_linksGrow : MethodName := ⟨RXOp, "linksGrow", "()Z"⟩
set_option maxRecDepth 100000 in
theorem qXOp_linksGrow : Cond.code yXOp_linksGrow cXOp_linksGrow 2 (some .boolean) ∈ lg_tbl := fx_c 306 rfl
theorem hdXOp_linksGrow : yXOp_linksGrow.cls = RXOp ∧ yXOp_linksGrow.cls ≠ "java/lang/invoke/MethodHandle" ∧ yXOp_linksGrow.cls ≠ "java/lang/invoke/VarHandle" ∧ (parseMethodDescriptor yXOp_linksGrow.desc).map (fun d => d.parameters.length) = some 0 := by decide +kernel
theorem dXOp_linksGrow_0 : decode cXOp_linksGrow 0 = .ok (.iconst 1, 1) := by decide +kernel
theorem dXOp_linksGrow_1 : decode cXOp_linksGrow 1 = .ok (.istore_n 1, 1) := by decide +kernel
theorem dXOp_linksGrow_2 : decode cXOp_linksGrow 2 = .ok (.iload_n 1, 1) := by decide +kernel
theorem dXOp_linksGrow_3 : decode cXOp_linksGrow 3 = .ok (.aload_n 0, 1) := by decide +kernel
theorem dXOp_linksGrow_4 : decode cXOp_linksGrow 4 = .ok (.getfield 24, 3) := by decide +kernel
theorem dXOp_linksGrow_7 : decode cXOp_linksGrow 7 = .ok (.arraylength, 1) := by decide +kernel
theorem dXOp_linksGrow_8 : decode cXOp_linksGrow 8 = .ok (.if_icmp .ge 29, 3) := by decide +kernel
theorem dXOp_linksGrow_11 : decode cXOp_linksGrow 11 = .ok (.aload_n 0, 1) := by decide +kernel
theorem dXOp_linksGrow_12 : decode cXOp_linksGrow 12 = .ok (.getfield 24, 3) := by decide +kernel
theorem dXOp_linksGrow_15 : decode cXOp_linksGrow 15 = .ok (.iload_n 1, 1) := by decide +kernel
theorem dXOp_linksGrow_16 : decode cXOp_linksGrow 16 = .ok (.iconst 1, 1) := by decide +kernel
theorem dXOp_linksGrow_17 : decode cXOp_linksGrow 17 = .ok (.isub, 1) := by decide +kernel
theorem dXOp_linksGrow_18 : decode cXOp_linksGrow 18 = .ok (.laload, 1) := by decide +kernel
theorem dXOp_linksGrow_19 : decode cXOp_linksGrow 19 = .ok (.aload_n 0, 1) := by decide +kernel
theorem dXOp_linksGrow_20 : decode cXOp_linksGrow 20 = .ok (.getfield 24, 3) := by decide +kernel
theorem dXOp_linksGrow_23 : decode cXOp_linksGrow 23 = .ok (.iload_n 1, 1) := by decide +kernel
theorem dXOp_linksGrow_24 : decode cXOp_linksGrow 24 = .ok (.laload, 1) := by decide +kernel
theorem dXOp_linksGrow_25 : decode cXOp_linksGrow 25 = .ok (.lcmp, 1) := by decide +kernel
theorem dXOp_linksGrow_26 : decode cXOp_linksGrow 26 = .ok (.ifCond .lt 5, 3) := by decide +kernel
theorem dXOp_linksGrow_29 : decode cXOp_linksGrow 29 = .ok (.iconst 0, 1) := by decide +kernel
theorem dXOp_linksGrow_30 : decode cXOp_linksGrow 30 = .ok (.ireturn, 1) := by decide +kernel
theorem dXOp_linksGrow_31 : decode cXOp_linksGrow 31 = .ok (.iinc 1 1, 3) := by decide +kernel
theorem dXOp_linksGrow_34 : decode cXOp_linksGrow 34 = .ok (.goto (-32), 3) := by decide +kernel
theorem dXOp_linksGrow_37 : decode cXOp_linksGrow 37 = .ok (.iconst 1, 1) := by decide +kernel
theorem dXOp_linksGrow_38 : decode cXOp_linksGrow 38 = .ok (.ireturn, 1) := by decide +kernel
abbrev cXOp_isInShape : ByteArray := prog_6_method_3_code
def yXOp_isInShape : MethodName := ⟨RXOp, "isInShape", "()Z"⟩
set_option maxRecDepth 100000 in
theorem qXOp_isInShape : Cond.code yXOp_isInShape cXOp_isInShape 1 (some .boolean) ∈ lg_tbl := fx_c 302 rfl
theorem hdXOp_isInShape : yXOp_isInShape.cls = RXOp ∧ yXOp_isInShape.cls ≠ "java/lang/invoke/MethodHandle" ∧ yXOp_isInShape.cls ≠ "java/lang/invoke/VarHandle" ∧ (parseMethodDescriptor yXOp_isInShape.desc).map (fun d => d.parameters.length) = some 0 := by decide +kernel
theorem dXOp_isInShape_0 : decode cXOp_isInShape 0 = .ok (.aload_n 0, 1) := by decide +kernel
theorem dXOp_isInShape_1 : decode cXOp_isInShape 1 = .ok (.getfield 9, 3) := by decide +kernel
theorem dXOp_isInShape_4 : decode cXOp_isInShape 4 = .ok (.ifCond .lt 53, 3) := by decide +kernel
theorem dXOp_isInShape_7 : decode cXOp_isInShape 7 = .ok (.aload_n 0, 1) := by decide +kernel
theorem dXOp_isInShape_8 : decode cXOp_isInShape 8 = .ok (.getfield 9, 3) := by decide +kernel
theorem dXOp_isInShape_11 : decode cXOp_isInShape 11 = .ok (.iconst 4, 1) := by decide +kernel
theorem dXOp_isInShape_12 : decode cXOp_isInShape 12 = .ok (.if_icmp .ge 45, 3) := by decide +kernel
theorem dXOp_isInShape_15 : decode cXOp_isInShape 15 = .ok (.aload_n 0, 1) := by decide +kernel
theorem dXOp_isInShape_16 : decode cXOp_isInShape 16 = .ok (.getfield 15, 3) := by decide +kernel
theorem dXOp_isInShape_19 : decode cXOp_isInShape 19 = .ok (.ifCond .lt 38, 3) := by decide +kernel
theorem dXOp_isInShape_22 : decode cXOp_isInShape 22 = .ok (.aload_n 0, 1) := by decide +kernel
theorem dXOp_isInShape_23 : decode cXOp_isInShape 23 = .ok (.getfield 15, 3) := by decide +kernel
theorem dXOp_isInShape_26 : decode cXOp_isInShape 26 = .ok (.iconst 3, 1) := by decide +kernel
theorem dXOp_isInShape_27 : decode cXOp_isInShape 27 = .ok (.if_icmp .gt 30, 3) := by decide +kernel
theorem dXOp_isInShape_30 : decode cXOp_isInShape 30 = .ok (.aload_n 0, 1) := by decide +kernel
theorem dXOp_isInShape_31 : decode cXOp_isInShape 31 = .ok (.getfield 18, 3) := by decide +kernel
theorem dXOp_isInShape_34 : decode cXOp_isInShape 34 = .ok (.ifCond .lt 23, 3) := by decide +kernel
theorem dXOp_isInShape_37 : decode cXOp_isInShape 37 = .ok (.aload_n 0, 1) := by decide +kernel
theorem dXOp_isInShape_38 : decode cXOp_isInShape 38 = .ok (.getfield 18, 3) := by decide +kernel
theorem dXOp_isInShape_41 : decode cXOp_isInShape 41 = .ok (.bipush 8, 2) := by decide +kernel
theorem dXOp_isInShape_43 : decode cXOp_isInShape 43 = .ok (.if_icmp .ge 14, 3) := by decide +kernel
theorem dXOp_isInShape_46 : decode cXOp_isInShape 46 = .ok (.aload_n 0, 1) := by decide +kernel
theorem dXOp_isInShape_47 : decode cXOp_isInShape 47 = .ok (.invokevirtual 40, 3) := by decide +kernel
theorem dXOp_isInShape_50 : decode cXOp_isInShape 50 = .ok (.ifCond .eq 7, 3) := by decide +kernel
theorem dXOp_isInShape_53 : decode cXOp_isInShape 53 = .ok (.iconst 1, 1) := by decide +kernel
theorem dXOp_isInShape_54 : decode cXOp_isInShape 54 = .ok (.goto 4, 3) := by decide +kernel
theorem dXOp_isInShape_57 : decode cXOp_isInShape 57 = .ok (.iconst 0, 1) := by decide +kernel
theorem dXOp_isInShape_58 : decode cXOp_isInShape 58 = .ok (.ireturn, 1) := by decide +kernel
abbrev cXRe_holdsLinks : ByteArray := prog_7_method_3_code
def yXRe_holdsLinks : MethodName := ⟨RXRe, "holdsLinks", "(LHashLinkedWeb$Operation;)Z"⟩
set_option maxRecDepth 100000 in
theorem qXRe_holdsLinks : Cond.code yXRe_holdsLinks cXRe_holdsLinks 3 (some .boolean) ∈ lg_tbl := fx_c 310 rfl
theorem hdXRe_holdsLinks : yXRe_holdsLinks.cls = RXRe ∧ yXRe_holdsLinks.cls ≠ "java/lang/invoke/MethodHandle" ∧ yXRe_holdsLinks.cls ≠ "java/lang/invoke/VarHandle" ∧ (parseMethodDescriptor yXRe_holdsLinks.desc).map (fun d => d.parameters.length) = some 1 := by decide +kernel
theorem dXRe_holdsLinks_0 : decode cXRe_holdsLinks 0 = .ok (.iconst 0, 1) := by decide +kernel
theorem dXRe_holdsLinks_1 : decode cXRe_holdsLinks 1 = .ok (.istore_n 2, 1) := by decide +kernel
theorem dXRe_holdsLinks_2 : decode cXRe_holdsLinks 2 = .ok (.iload_n 2, 1) := by decide +kernel
theorem dXRe_holdsLinks_3 : decode cXRe_holdsLinks 3 = .ok (.aload_n 1, 1) := by decide +kernel
theorem dXRe_holdsLinks_4 : decode cXRe_holdsLinks 4 = .ok (.getfield 46, 3) := by decide +kernel
theorem dXRe_holdsLinks_7 : decode cXRe_holdsLinks 7 = .ok (.arraylength, 1) := by decide +kernel
theorem dXRe_holdsLinks_8 : decode cXRe_holdsLinks 8 = .ok (.if_icmp .ge 31, 3) := by decide +kernel
theorem dXRe_holdsLinks_11 : decode cXRe_holdsLinks 11 = .ok (.aload_n 0, 1) := by decide +kernel
theorem dXRe_holdsLinks_12 : decode cXRe_holdsLinks 12 = .ok (.aload_n 0, 1) := by decide +kernel
theorem dXRe_holdsLinks_13 : decode cXRe_holdsLinks 13 = .ok (.getfield 28, 3) := by decide +kernel
theorem dXRe_holdsLinks_16 : decode cXRe_holdsLinks 16 = .ok (.aload_n 1, 1) := by decide +kernel
theorem dXRe_holdsLinks_17 : decode cXRe_holdsLinks 17 = .ok (.getfield 46, 3) := by decide +kernel
theorem dXRe_holdsLinks_20 : decode cXRe_holdsLinks 20 = .ok (.iload_n 2, 1) := by decide +kernel
theorem dXRe_holdsLinks_21 : decode cXRe_holdsLinks 21 = .ok (.laload, 1) := by decide +kernel
theorem dXRe_holdsLinks_22 : decode cXRe_holdsLinks 22 = .ok (.invokevirtual 52, 3) := by decide +kernel
theorem dXRe_holdsLinks_25 : decode cXRe_holdsLinks 25 = .ok (.invokevirtual 58, 3) := by decide +kernel
theorem dXRe_holdsLinks_28 : decode cXRe_holdsLinks 28 = .ok (.ifCond .ne 5, 3) := by decide +kernel
theorem dXRe_holdsLinks_31 : decode cXRe_holdsLinks 31 = .ok (.iconst 0, 1) := by decide +kernel
theorem dXRe_holdsLinks_32 : decode cXRe_holdsLinks 32 = .ok (.ireturn, 1) := by decide +kernel
theorem dXRe_holdsLinks_33 : decode cXRe_holdsLinks 33 = .ok (.iinc 2 1, 3) := by decide +kernel
theorem dXRe_holdsLinks_36 : decode cXRe_holdsLinks 36 = .ok (.goto (-34), 3) := by decide +kernel
theorem dXRe_holdsLinks_39 : decode cXRe_holdsLinks 39 = .ok (.iconst 1, 1) := by decide +kernel
theorem dXRe_holdsLinks_40 : decode cXRe_holdsLinks 40 = .ok (.ireturn, 1) := by decide +kernel
abbrev cXAL_size : ByteArray := prog_18_method_8_code
def yXAL_size : MethodName := ⟨RXAL, "size", "()I"⟩
set_option maxRecDepth 100000 in
theorem qXAL_size : Cond.code yXAL_size cXAL_size 1 (some .int) ∈ lg_tbl := fx_c 318 rfl
theorem hdXAL_size : yXAL_size.cls = RXAL ∧ yXAL_size.cls ≠ "java/lang/invoke/MethodHandle" ∧ yXAL_size.cls ≠ "java/lang/invoke/VarHandle" ∧ (parseMethodDescriptor yXAL_size.desc).map (fun d => d.parameters.length) = some 0 := by decide +kernel
theorem dXAL_size_0 : decode cXAL_size 0 = .ok (.aload_n 0, 1) := by decide +kernel
theorem dXAL_size_1 : decode cXAL_size 1 = .ok (.getfield 48, 3) := by decide +kernel
theorem dXAL_size_4 : decode cXAL_size 4 = .ok (.ireturn, 1) := by decide +kernel
abbrev cXPr_checkIndex : ByteArray := prog_26_method_11_code
def yXPr_checkIndex : MethodName := ⟨RXPr, "checkIndex", "(IILjava/util/function/BiFunction;)I"⟩
set_option maxRecDepth 100000 in
theorem qXPr_checkIndex : Cond.code yXPr_checkIndex cXPr_checkIndex 3 (some .int) ∈ lg_tbl := fx_c 328 rfl
theorem hdXPr_checkIndex : yXPr_checkIndex.cls = RXPr ∧ yXPr_checkIndex.cls ≠ "java/lang/invoke/MethodHandle" ∧ yXPr_checkIndex.cls ≠ "java/lang/invoke/VarHandle" ∧ (parseMethodDescriptor yXPr_checkIndex.desc).map (fun d => d.parameters.length) = some 3 := by decide +kernel
theorem dXPr_checkIndex_0 : decode cXPr_checkIndex 0 = .ok (.iload_n 0, 1) := by decide +kernel
theorem dXPr_checkIndex_1 : decode cXPr_checkIndex 1 = .ok (.ifCond .lt 8, 3) := by decide +kernel
theorem dXPr_checkIndex_4 : decode cXPr_checkIndex 4 = .ok (.iload_n 0, 1) := by decide +kernel
theorem dXPr_checkIndex_5 : decode cXPr_checkIndex 5 = .ok (.iload_n 1, 1) := by decide +kernel
theorem dXPr_checkIndex_6 : decode cXPr_checkIndex 6 = .ok (.if_icmp .lt 10, 3) := by decide +kernel
theorem dXPr_checkIndex_9 : decode cXPr_checkIndex 9 = .ok (.aload_n 2, 1) := by decide +kernel
theorem dXPr_checkIndex_10 : decode cXPr_checkIndex 10 = .ok (.iload_n 0, 1) := by decide +kernel
theorem dXPr_checkIndex_11 : decode cXPr_checkIndex 11 = .ok (.iload_n 1, 1) := by decide +kernel
theorem dXPr_checkIndex_12 : decode cXPr_checkIndex 12 = .ok (.invokestatic 95, 3) := by decide +kernel
theorem dXPr_checkIndex_15 : decode cXPr_checkIndex 15 = .ok (.athrow, 1) := by decide +kernel
theorem dXPr_checkIndex_16 : decode cXPr_checkIndex 16 = .ok (.iload_n 0, 1) := by decide +kernel
theorem dXPr_checkIndex_17 : decode cXPr_checkIndex 17 = .ok (.ireturn, 1) := by decide +kernel
abbrev cXOb_checkIndex : ByteArray := prog_22_method_17_code
def yXOb_checkIndex : MethodName := ⟨RXOb, "checkIndex", "(II)I"⟩
set_option maxRecDepth 100000 in
theorem qXOb_checkIndex : Cond.code yXOb_checkIndex cXOb_checkIndex 2 (some .int) ∈ lg_tbl := fx_c 325 rfl
theorem hdXOb_checkIndex : yXOb_checkIndex.cls = RXOb ∧ yXOb_checkIndex.cls ≠ "java/lang/invoke/MethodHandle" ∧ yXOb_checkIndex.cls ≠ "java/lang/invoke/VarHandle" ∧ (parseMethodDescriptor yXOb_checkIndex.desc).map (fun d => d.parameters.length) = some 2 := by decide +kernel
theorem dXOb_checkIndex_0 : decode cXOb_checkIndex 0 = .ok (.iload_n 0, 1) := by decide +kernel
theorem dXOb_checkIndex_1 : decode cXOb_checkIndex 1 = .ok (.iload_n 1, 1) := by decide +kernel
theorem dXOb_checkIndex_2 : decode cXOb_checkIndex 2 = .ok (.aconst_null, 1) := by decide +kernel
theorem dXOb_checkIndex_3 : decode cXOb_checkIndex 3 = .ok (.invokestatic 105, 3) := by decide +kernel
theorem dXOb_checkIndex_6 : decode cXOb_checkIndex 6 = .ok (.ireturn, 1) := by decide +kernel
abbrev cXAL_elementData : ByteArray := prog_18_method_18_code
def yXAL_elementData : MethodName := ⟨RXAL, "elementData", "(I)Ljava/lang/Object;"⟩
set_option maxRecDepth 100000 in
theorem qXAL_elementData : Cond.code yXAL_elementData cXAL_elementData 2 (some (.object "java/lang/Object")) ∈ lg_tbl := fx_c 332 rfl
theorem hdXAL_elementData : yXAL_elementData.cls = RXAL ∧ yXAL_elementData.cls ≠ "java/lang/invoke/MethodHandle" ∧ yXAL_elementData.cls ≠ "java/lang/invoke/VarHandle" ∧ (parseMethodDescriptor yXAL_elementData.desc).map (fun d => d.parameters.length) = some 1 := by decide +kernel
theorem dXAL_elementData_0 : decode cXAL_elementData 0 = .ok (.aload_n 0, 1) := by decide +kernel
theorem dXAL_elementData_1 : decode cXAL_elementData 1 = .ok (.getfield 9, 3) := by decide +kernel
theorem dXAL_elementData_4 : decode cXAL_elementData 4 = .ok (.iload_n 1, 1) := by decide +kernel
theorem dXAL_elementData_5 : decode cXAL_elementData 5 = .ok (.aaload, 1) := by decide +kernel
theorem dXAL_elementData_6 : decode cXAL_elementData 6 = .ok (.areturn, 1) := by decide +kernel
abbrev cXAL_get : ByteArray := prog_18_method_20_code
def yXAL_get : MethodName := ⟨RXAL, "get", "(I)Ljava/lang/Object;"⟩
set_option maxRecDepth 100000 in
theorem qXAL_get : Cond.code yXAL_get cXAL_get 2 (some (.object "java/lang/Object")) ∈ lg_tbl := fx_c 322 rfl
theorem hdXAL_get : yXAL_get.cls = RXAL ∧ yXAL_get.cls ≠ "java/lang/invoke/MethodHandle" ∧ yXAL_get.cls ≠ "java/lang/invoke/VarHandle" ∧ (parseMethodDescriptor yXAL_get.desc).map (fun d => d.parameters.length) = some 1 := by decide +kernel
theorem dXAL_get_0 : decode cXAL_get 0 = .ok (.iload_n 1, 1) := by decide +kernel
theorem dXAL_get_1 : decode cXAL_get 1 = .ok (.aload_n 0, 1) := by decide +kernel
theorem dXAL_get_2 : decode cXAL_get 2 = .ok (.getfield 48, 3) := by decide +kernel
theorem dXAL_get_5 : decode cXAL_get 5 = .ok (.invokestatic 118, 3) := by decide +kernel
theorem dXAL_get_8 : decode cXAL_get 8 = .ok (.pop, 1) := by decide +kernel
theorem dXAL_get_9 : decode cXAL_get 9 = .ok (.aload_n 0, 1) := by decide +kernel
theorem dXAL_get_10 : decode cXAL_get 10 = .ok (.iload_n 1, 1) := by decide +kernel
theorem dXAL_get_11 : decode cXAL_get 11 = .ok (.invokevirtual 123, 3) := by decide +kernel
theorem dXAL_get_14 : decode cXAL_get 14 = .ok (.areturn, 1) := by decide +kernel
abbrev cXAL_grow2 : ByteArray := prog_18_method_6_code
def yXAL_grow2 : MethodName := ⟨RXAL, "grow", "(I)[Ljava/lang/Object;"⟩
set_option maxRecDepth 100000 in
theorem qXAL_grow2 : Cond.code yXAL_grow2 cXAL_grow2 4 (some (.array (.object "java/lang/Object"))) ∈ lg_tbl := fx_c 349 rfl
theorem hdXAL_grow2 : yXAL_grow2.cls = RXAL ∧ yXAL_grow2.cls ≠ "java/lang/invoke/MethodHandle" ∧ yXAL_grow2.cls ≠ "java/lang/invoke/VarHandle" ∧ (parseMethodDescriptor yXAL_grow2.desc).map (fun d => d.parameters.length) = some 1 := by decide +kernel
theorem dXAL_grow2_0 : decode cXAL_grow2 0 = .ok (.aload_n 0, 1) := by decide +kernel
theorem dXAL_grow2_1 : decode cXAL_grow2 1 = .ok (.getfield 9, 3) := by decide +kernel
theorem dXAL_grow2_4 : decode cXAL_grow2 4 = .ok (.arraylength, 1) := by decide +kernel
theorem dXAL_grow2_5 : decode cXAL_grow2 5 = .ok (.istore_n 2, 1) := by decide +kernel
theorem dXAL_grow2_6 : decode cXAL_grow2 6 = .ok (.iload_n 2, 1) := by decide +kernel
theorem dXAL_grow2_7 : decode cXAL_grow2 7 = .ok (.ifCond .gt 13, 3) := by decide +kernel
theorem dXAL_grow2_10 : decode cXAL_grow2 10 = .ok (.aload_n 0, 1) := by decide +kernel
theorem dXAL_grow2_11 : decode cXAL_grow2 11 = .ok (.getfield 9, 3) := by decide +kernel
theorem dXAL_grow2_14 : decode cXAL_grow2 14 = .ok (.getstatic 39, 3) := by decide +kernel
theorem dXAL_grow2_17 : decode cXAL_grow2 17 = .ok (.if_acmp .eq 28, 3) := by decide +kernel
theorem dXAL_grow2_20 : decode cXAL_grow2 20 = .ok (.iload_n 2, 1) := by decide +kernel
theorem dXAL_grow2_21 : decode cXAL_grow2 21 = .ok (.iload_n 1, 1) := by decide +kernel
theorem dXAL_grow2_22 : decode cXAL_grow2 22 = .ok (.iload_n 2, 1) := by decide +kernel
theorem dXAL_grow2_23 : decode cXAL_grow2 23 = .ok (.isub, 1) := by decide +kernel
theorem dXAL_grow2_24 : decode cXAL_grow2 24 = .ok (.iload_n 2, 1) := by decide +kernel
theorem dXAL_grow2_25 : decode cXAL_grow2 25 = .ok (.iconst 1, 1) := by decide +kernel
theorem dXAL_grow2_26 : decode cXAL_grow2 26 = .ok (.ishr, 1) := by decide +kernel
theorem dXAL_grow2_27 : decode cXAL_grow2 27 = .ok (.invokestatic 73, 3) := by decide +kernel
theorem dXAL_grow2_30 : decode cXAL_grow2 30 = .ok (.istore_n 3, 1) := by decide +kernel
theorem dXAL_grow2_31 : decode cXAL_grow2 31 = .ok (.aload_n 0, 1) := by decide +kernel
theorem dXAL_grow2_32 : decode cXAL_grow2 32 = .ok (.aload_n 0, 1) := by decide +kernel
theorem dXAL_grow2_33 : decode cXAL_grow2 33 = .ok (.getfield 9, 3) := by decide +kernel
theorem dXAL_grow2_36 : decode cXAL_grow2 36 = .ok (.iload_n 3, 1) := by decide +kernel
theorem dXAL_grow2_37 : decode cXAL_grow2 37 = .ok (.invokestatic 66, 3) := by decide +kernel
theorem dXAL_grow2_40 : decode cXAL_grow2 40 = .ok (.dup_x1, 1) := by decide +kernel
theorem dXAL_grow2_41 : decode cXAL_grow2 41 = .ok (.putfield 9, 3) := by decide +kernel
theorem dXAL_grow2_44 : decode cXAL_grow2 44 = .ok (.areturn, 1) := by decide +kernel
theorem dXAL_grow2_45 : decode cXAL_grow2 45 = .ok (.aload_n 0, 1) := by decide +kernel
theorem dXAL_grow2_46 : decode cXAL_grow2 46 = .ok (.bipush 10, 2) := by decide +kernel
theorem dXAL_grow2_48 : decode cXAL_grow2 48 = .ok (.iload_n 1, 1) := by decide +kernel
theorem dXAL_grow2_49 : decode cXAL_grow2 49 = .ok (.invokestatic 79, 3) := by decide +kernel
theorem dXAL_grow2_52 : decode cXAL_grow2 52 = .ok (.anewarray 7, 3) := by decide +kernel
theorem dXAL_grow2_55 : decode cXAL_grow2 55 = .ok (.dup_x1, 1) := by decide +kernel
theorem dXAL_grow2_56 : decode cXAL_grow2 56 = .ok (.putfield 9, 3) := by decide +kernel
theorem dXAL_grow2_59 : decode cXAL_grow2 59 = .ok (.areturn, 1) := by decide +kernel
abbrev cXAL_grow : ByteArray := prog_18_method_7_code
def yXAL_grow : MethodName := ⟨RXAL, "grow", "()[Ljava/lang/Object;"⟩
set_option maxRecDepth 100000 in
theorem qXAL_grow : Cond.code yXAL_grow cXAL_grow 1 (some (.array (.object "java/lang/Object"))) ∈ lg_tbl := fx_c 345 rfl
theorem hdXAL_grow : yXAL_grow.cls = RXAL ∧ yXAL_grow.cls ≠ "java/lang/invoke/MethodHandle" ∧ yXAL_grow.cls ≠ "java/lang/invoke/VarHandle" ∧ (parseMethodDescriptor yXAL_grow.desc).map (fun d => d.parameters.length) = some 0 := by decide +kernel
theorem dXAL_grow_0 : decode cXAL_grow 0 = .ok (.aload_n 0, 1) := by decide +kernel
theorem dXAL_grow_1 : decode cXAL_grow 1 = .ok (.aload_n 0, 1) := by decide +kernel
theorem dXAL_grow_2 : decode cXAL_grow 2 = .ok (.getfield 48, 3) := by decide +kernel
theorem dXAL_grow_5 : decode cXAL_grow 5 = .ok (.iconst 1, 1) := by decide +kernel
theorem dXAL_grow_6 : decode cXAL_grow 6 = .ok (.iadd, 1) := by decide +kernel
theorem dXAL_grow_7 : decode cXAL_grow 7 = .ok (.invokevirtual 69, 3) := by decide +kernel
theorem dXAL_grow_10 : decode cXAL_grow 10 = .ok (.areturn, 1) := by decide +kernel
abbrev cXAL_add2 : ByteArray := prog_18_method_24_code
def yXAL_add2 : MethodName := ⟨RXAL, "add", "(Ljava/lang/Object;[Ljava/lang/Object;I)V"⟩
set_option maxRecDepth 100000 in
theorem qXAL_add2 : Cond.code yXAL_add2 cXAL_add2 4 none ∈ lg_tbl := fx_c 341 rfl
theorem hdXAL_add2 : yXAL_add2.cls = RXAL ∧ yXAL_add2.cls ≠ "java/lang/invoke/MethodHandle" ∧ yXAL_add2.cls ≠ "java/lang/invoke/VarHandle" ∧ (parseMethodDescriptor yXAL_add2.desc).map (fun d => d.parameters.length) = some 3 := by decide +kernel
theorem dXAL_add2_0 : decode cXAL_add2 0 = .ok (.iload_n 3, 1) := by decide +kernel
theorem dXAL_add2_1 : decode cXAL_add2 1 = .ok (.aload_n 2, 1) := by decide +kernel
theorem dXAL_add2_2 : decode cXAL_add2 2 = .ok (.arraylength, 1) := by decide +kernel
theorem dXAL_add2_3 : decode cXAL_add2 3 = .ok (.if_icmp .ne 8, 3) := by decide +kernel
theorem dXAL_add2_6 : decode cXAL_add2 6 = .ok (.aload_n 0, 1) := by decide +kernel
theorem dXAL_add2_7 : decode cXAL_add2 7 = .ok (.invokevirtual 129, 3) := by decide +kernel
theorem dXAL_add2_10 : decode cXAL_add2 10 = .ok (.astore_n 2, 1) := by decide +kernel
theorem dXAL_add2_11 : decode cXAL_add2 11 = .ok (.aload_n 2, 1) := by decide +kernel
theorem dXAL_add2_12 : decode cXAL_add2 12 = .ok (.iload_n 3, 1) := by decide +kernel
theorem dXAL_add2_13 : decode cXAL_add2 13 = .ok (.aload_n 1, 1) := by decide +kernel
theorem dXAL_add2_14 : decode cXAL_add2 14 = .ok (.aastore, 1) := by decide +kernel
theorem dXAL_add2_15 : decode cXAL_add2 15 = .ok (.aload_n 0, 1) := by decide +kernel
theorem dXAL_add2_16 : decode cXAL_add2 16 = .ok (.iload_n 3, 1) := by decide +kernel
theorem dXAL_add2_17 : decode cXAL_add2 17 = .ok (.iconst 1, 1) := by decide +kernel
theorem dXAL_add2_18 : decode cXAL_add2 18 = .ok (.iadd, 1) := by decide +kernel
theorem dXAL_add2_19 : decode cXAL_add2 19 = .ok (.putfield 48, 3) := by decide +kernel
theorem dXAL_add2_22 : decode cXAL_add2 22 = .ok (.return_, 1) := by decide +kernel
abbrev cXAL_add : ByteArray := prog_18_method_25_code
def yXAL_add : MethodName := ⟨RXAL, "add", "(Ljava/lang/Object;)Z"⟩
set_option maxRecDepth 100000 in
theorem qXAL_add : Cond.code yXAL_add cXAL_add 2 (some .boolean) ∈ lg_tbl := fx_c 337 rfl
theorem hdXAL_add : yXAL_add.cls = RXAL ∧ yXAL_add.cls ≠ "java/lang/invoke/MethodHandle" ∧ yXAL_add.cls ≠ "java/lang/invoke/VarHandle" ∧ (parseMethodDescriptor yXAL_add.desc).map (fun d => d.parameters.length) = some 1 := by decide +kernel
theorem dXAL_add_0 : decode cXAL_add 0 = .ok (.aload_n 0, 1) := by decide +kernel
theorem dXAL_add_1 : decode cXAL_add 1 = .ok (.dup, 1) := by decide +kernel
theorem dXAL_add_2 : decode cXAL_add 2 = .ok (.getfield 63, 3) := by decide +kernel
theorem dXAL_add_5 : decode cXAL_add 5 = .ok (.iconst 1, 1) := by decide +kernel
theorem dXAL_add_6 : decode cXAL_add 6 = .ok (.iadd, 1) := by decide +kernel
theorem dXAL_add_7 : decode cXAL_add 7 = .ok (.putfield 63, 3) := by decide +kernel
theorem dXAL_add_10 : decode cXAL_add 10 = .ok (.aload_n 0, 1) := by decide +kernel
theorem dXAL_add_11 : decode cXAL_add 11 = .ok (.aload_n 1, 1) := by decide +kernel
theorem dXAL_add_12 : decode cXAL_add 12 = .ok (.aload_n 0, 1) := by decide +kernel
theorem dXAL_add_13 : decode cXAL_add 13 = .ok (.getfield 9, 3) := by decide +kernel
theorem dXAL_add_16 : decode cXAL_add 16 = .ok (.aload_n 0, 1) := by decide +kernel
theorem dXAL_add_17 : decode cXAL_add 17 = .ok (.getfield 48, 3) := by decide +kernel
theorem dXAL_add_20 : decode cXAL_add 20 = .ok (.invokevirtual 131, 3) := by decide +kernel
theorem dXAL_add_23 : decode cXAL_add 23 = .ok (.iconst 1, 1) := by decide +kernel
theorem dXAL_add_24 : decode cXAL_add 24 = .ok (.ireturn, 1) := by decide +kernel
abbrev cXAL_fastRemove : ByteArray := prog_18_method_39_code
def yXAL_fastRemove : MethodName := ⟨RXAL, "fastRemove", "([Ljava/lang/Object;I)V"⟩
set_option maxRecDepth 100000 in
theorem qXAL_fastRemove : Cond.code yXAL_fastRemove cXAL_fastRemove 4 none ∈ lg_tbl := fx_c 390 rfl
theorem hdXAL_fastRemove : yXAL_fastRemove.cls = RXAL ∧ yXAL_fastRemove.cls ≠ "java/lang/invoke/MethodHandle" ∧ yXAL_fastRemove.cls ≠ "java/lang/invoke/VarHandle" ∧ (parseMethodDescriptor yXAL_fastRemove.desc).map (fun d => d.parameters.length) = some 2 := by decide +kernel
theorem dXAL_fastRemove_0 : decode cXAL_fastRemove 0 = .ok (.aload_n 0, 1) := by decide +kernel
theorem dXAL_fastRemove_1 : decode cXAL_fastRemove 1 = .ok (.dup, 1) := by decide +kernel
theorem dXAL_fastRemove_2 : decode cXAL_fastRemove 2 = .ok (.getfield 63, 3) := by decide +kernel
theorem dXAL_fastRemove_5 : decode cXAL_fastRemove 5 = .ok (.iconst 1, 1) := by decide +kernel
theorem dXAL_fastRemove_6 : decode cXAL_fastRemove 6 = .ok (.iadd, 1) := by decide +kernel
theorem dXAL_fastRemove_7 : decode cXAL_fastRemove 7 = .ok (.putfield 63, 3) := by decide +kernel
theorem dXAL_fastRemove_10 : decode cXAL_fastRemove 10 = .ok (.aload_n 0, 1) := by decide +kernel
theorem dXAL_fastRemove_11 : decode cXAL_fastRemove 11 = .ok (.getfield 48, 3) := by decide +kernel
theorem dXAL_fastRemove_14 : decode cXAL_fastRemove 14 = .ok (.iconst 1, 1) := by decide +kernel
theorem dXAL_fastRemove_15 : decode cXAL_fastRemove 15 = .ok (.isub, 1) := by decide +kernel
theorem dXAL_fastRemove_16 : decode cXAL_fastRemove 16 = .ok (.dup, 1) := by decide +kernel
theorem dXAL_fastRemove_17 : decode cXAL_fastRemove 17 = .ok (.istore_n 3, 1) := by decide +kernel
theorem dXAL_fastRemove_18 : decode cXAL_fastRemove 18 = .ok (.iload_n 2, 1) := by decide +kernel
theorem dXAL_fastRemove_19 : decode cXAL_fastRemove 19 = .ok (.if_icmp .le 15, 3) := by decide +kernel
theorem dXAL_fastRemove_22 : decode cXAL_fastRemove 22 = .ok (.aload_n 1, 1) := by decide +kernel
theorem dXAL_fastRemove_23 : decode cXAL_fastRemove 23 = .ok (.iload_n 2, 1) := by decide +kernel
theorem dXAL_fastRemove_24 : decode cXAL_fastRemove 24 = .ok (.iconst 1, 1) := by decide +kernel
theorem dXAL_fastRemove_25 : decode cXAL_fastRemove 25 = .ok (.iadd, 1) := by decide +kernel
theorem dXAL_fastRemove_26 : decode cXAL_fastRemove 26 = .ok (.aload_n 1, 1) := by decide +kernel
theorem dXAL_fastRemove_27 : decode cXAL_fastRemove 27 = .ok (.iload_n 2, 1) := by decide +kernel
theorem dXAL_fastRemove_28 : decode cXAL_fastRemove 28 = .ok (.iload_n 3, 1) := by decide +kernel
theorem dXAL_fastRemove_29 : decode cXAL_fastRemove 29 = .ok (.iload_n 2, 1) := by decide +kernel
theorem dXAL_fastRemove_30 : decode cXAL_fastRemove 30 = .ok (.isub, 1) := by decide +kernel
theorem dXAL_fastRemove_31 : decode cXAL_fastRemove 31 = .ok (.invokestatic 112, 3) := by decide +kernel
theorem dXAL_fastRemove_34 : decode cXAL_fastRemove 34 = .ok (.aload_n 1, 1) := by decide +kernel
theorem dXAL_fastRemove_35 : decode cXAL_fastRemove 35 = .ok (.aload_n 0, 1) := by decide +kernel
theorem dXAL_fastRemove_36 : decode cXAL_fastRemove 36 = .ok (.iload_n 3, 1) := by decide +kernel
theorem dXAL_fastRemove_37 : decode cXAL_fastRemove 37 = .ok (.dup_x1, 1) := by decide +kernel
theorem dXAL_fastRemove_38 : decode cXAL_fastRemove 38 = .ok (.putfield 48, 3) := by decide +kernel
theorem dXAL_fastRemove_41 : decode cXAL_fastRemove 41 = .ok (.aconst_null, 1) := by decide +kernel
theorem dXAL_fastRemove_42 : decode cXAL_fastRemove 42 = .ok (.aastore, 1) := by decide +kernel
theorem dXAL_fastRemove_43 : decode cXAL_fastRemove 43 = .ok (.return_, 1) := by decide +kernel
abbrev cXAL_remove : ByteArray := prog_18_method_29_code
def yXAL_remove : MethodName := ⟨RXAL, "remove", "(I)Ljava/lang/Object;"⟩
set_option maxRecDepth 100000 in
theorem qXAL_remove : Cond.code yXAL_remove cXAL_remove 4 (some (.object "java/lang/Object")) ∈ lg_tbl := fx_c 386 rfl
theorem hdXAL_remove : yXAL_remove.cls = RXAL ∧ yXAL_remove.cls ≠ "java/lang/invoke/MethodHandle" ∧ yXAL_remove.cls ≠ "java/lang/invoke/VarHandle" ∧ (parseMethodDescriptor yXAL_remove.desc).map (fun d => d.parameters.length) = some 1 := by decide +kernel
theorem dXAL_remove_0 : decode cXAL_remove 0 = .ok (.iload_n 1, 1) := by decide +kernel
theorem dXAL_remove_1 : decode cXAL_remove 1 = .ok (.aload_n 0, 1) := by decide +kernel
theorem dXAL_remove_2 : decode cXAL_remove 2 = .ok (.getfield 48, 3) := by decide +kernel
theorem dXAL_remove_5 : decode cXAL_remove 5 = .ok (.invokestatic 118, 3) := by decide +kernel
theorem dXAL_remove_8 : decode cXAL_remove 8 = .ok (.pop, 1) := by decide +kernel
theorem dXAL_remove_9 : decode cXAL_remove 9 = .ok (.aload_n 0, 1) := by decide +kernel
theorem dXAL_remove_10 : decode cXAL_remove 10 = .ok (.getfield 9, 3) := by decide +kernel
theorem dXAL_remove_13 : decode cXAL_remove 13 = .ok (.astore_n 2, 1) := by decide +kernel
theorem dXAL_remove_14 : decode cXAL_remove 14 = .ok (.aload_n 2, 1) := by decide +kernel
theorem dXAL_remove_15 : decode cXAL_remove 15 = .ok (.iload_n 1, 1) := by decide +kernel
theorem dXAL_remove_16 : decode cXAL_remove 16 = .ok (.aaload, 1) := by decide +kernel
theorem dXAL_remove_17 : decode cXAL_remove 17 = .ok (.astore_n 3, 1) := by decide +kernel
theorem dXAL_remove_18 : decode cXAL_remove 18 = .ok (.aload_n 0, 1) := by decide +kernel
theorem dXAL_remove_19 : decode cXAL_remove 19 = .ok (.aload_n 2, 1) := by decide +kernel
theorem dXAL_remove_20 : decode cXAL_remove 20 = .ok (.iload_n 1, 1) := by decide +kernel
theorem dXAL_remove_21 : decode cXAL_remove 21 = .ok (.invokevirtual 144, 3) := by decide +kernel
theorem dXAL_remove_24 : decode cXAL_remove 24 = .ok (.aload_n 3, 1) := by decide +kernel
theorem dXAL_remove_25 : decode cXAL_remove 25 = .ok (.areturn, 1) := by decide +kernel
abbrev cXRe_letWait : ByteArray := prog_7_method_6_code
def yXRe_letWait : MethodName := ⟨RXRe, "letWait", "(LHashLinkedWeb$Operation;)V"⟩
set_option maxRecDepth 100000 in
theorem qXRe_letWait : Cond.code yXRe_letWait cXRe_letWait 3 none ∈ lg_tbl := fx_c 314 rfl
theorem hdXRe_letWait : yXRe_letWait.cls = RXRe ∧ yXRe_letWait.cls ≠ "java/lang/invoke/MethodHandle" ∧ yXRe_letWait.cls ≠ "java/lang/invoke/VarHandle" ∧ (parseMethodDescriptor yXRe_letWait.desc).map (fun d => d.parameters.length) = some 1 := by decide +kernel
theorem dXRe_letWait_0 : decode cXRe_letWait 0 = .ok (.iconst 0, 1) := by decide +kernel
theorem dXRe_letWait_1 : decode cXRe_letWait 1 = .ok (.istore_n 2, 1) := by decide +kernel
theorem dXRe_letWait_2 : decode cXRe_letWait 2 = .ok (.iload_n 2, 1) := by decide +kernel
theorem dXRe_letWait_3 : decode cXRe_letWait 3 = .ok (.aload_n 0, 1) := by decide +kernel
theorem dXRe_letWait_4 : decode cXRe_letWait 4 = .ok (.getfield 24, 3) := by decide +kernel
theorem dXRe_letWait_7 : decode cXRe_letWait 7 = .ok (.invokevirtual 110, 3) := by decide +kernel
theorem dXRe_letWait_10 : decode cXRe_letWait 10 = .ok (.if_icmp .ge 32, 3) := by decide +kernel
theorem dXRe_letWait_13 : decode cXRe_letWait 13 = .ok (.aload_n 0, 1) := by decide +kernel
theorem dXRe_letWait_14 : decode cXRe_letWait 14 = .ok (.getfield 24, 3) := by decide +kernel
theorem dXRe_letWait_17 : decode cXRe_letWait 17 = .ok (.iload_n 2, 1) := by decide +kernel
theorem dXRe_letWait_18 : decode cXRe_letWait 18 = .ok (.invokevirtual 113, 3) := by decide +kernel
theorem dXRe_letWait_21 : decode cXRe_letWait 21 = .ok (.checkcast 47, 3) := by decide +kernel
theorem dXRe_letWait_24 : decode cXRe_letWait 24 = .ok (.getfield 74, 3) := by decide +kernel
theorem dXRe_letWait_27 : decode cXRe_letWait 27 = .ok (.aload_n 1, 1) := by decide +kernel
theorem dXRe_letWait_28 : decode cXRe_letWait 28 = .ok (.getfield 74, 3) := by decide +kernel
theorem dXRe_letWait_31 : decode cXRe_letWait 31 = .ok (.lcmp, 1) := by decide +kernel
theorem dXRe_letWait_32 : decode cXRe_letWait 32 = .ok (.ifCond .ne 4, 3) := by decide +kernel
theorem dXRe_letWait_35 : decode cXRe_letWait 35 = .ok (.return_, 1) := by decide +kernel
theorem dXRe_letWait_36 : decode cXRe_letWait 36 = .ok (.iinc 2 1, 3) := by decide +kernel
theorem dXRe_letWait_39 : decode cXRe_letWait 39 = .ok (.goto (-37), 3) := by decide +kernel
theorem dXRe_letWait_42 : decode cXRe_letWait 42 = .ok (.aload_n 0, 1) := by decide +kernel
theorem dXRe_letWait_43 : decode cXRe_letWait 43 = .ok (.getfield 24, 3) := by decide +kernel
theorem dXRe_letWait_46 : decode cXRe_letWait 46 = .ok (.aload_n 1, 1) := by decide +kernel
theorem dXRe_letWait_47 : decode cXRe_letWait 47 = .ok (.invokevirtual 116, 3) := by decide +kernel
theorem dXRe_letWait_50 : decode cXRe_letWait 50 = .ok (.pop, 1) := by decide +kernel
theorem dXRe_letWait_51 : decode cXRe_letWait 51 = .ok (.aload_n 0, 1) := by decide +kernel
theorem dXRe_letWait_52 : decode cXRe_letWait 52 = .ok (.getfield 24, 3) := by decide +kernel
theorem dXRe_letWait_55 : decode cXRe_letWait 55 = .ok (.invokevirtual 110, 3) := by decide +kernel
theorem dXRe_letWait_58 : decode cXRe_letWait 58 = .ok (.iconst 5, 1) := by decide +kernel
theorem dXRe_letWait_59 : decode cXRe_letWait 59 = .ok (.if_icmp .le 12, 3) := by decide +kernel
theorem dXRe_letWait_62 : decode cXRe_letWait 62 = .ok (.aload_n 0, 1) := by decide +kernel
theorem dXRe_letWait_63 : decode cXRe_letWait 63 = .ok (.getfield 24, 3) := by decide +kernel
theorem dXRe_letWait_66 : decode cXRe_letWait 66 = .ok (.iconst 0, 1) := by decide +kernel
theorem dXRe_letWait_67 : decode cXRe_letWait 67 = .ok (.invokevirtual 70, 3) := by decide +kernel
theorem dXRe_letWait_70 : decode cXRe_letWait 70 = .ok (.pop, 1) := by decide +kernel
theorem dXRe_letWait_71 : decode cXRe_letWait 71 = .ok (.return_, 1) := by decide +kernel
abbrev cXMe_init : ByteArray := prog_5_method_1_code
def yXMe_init : MethodName := ⟨RXMe, "<init>", "(LHashLinkedWeb$Operation;IIJJ)V"⟩
set_option maxRecDepth 100000 in
theorem qXMe_init : Cond.code yXMe_init cXMe_init 8 none ∈ lg_tbl := fx_c 402 rfl
theorem hdXMe_init : yXMe_init.cls = RXMe ∧ yXMe_init.cls ≠ "java/lang/invoke/MethodHandle" ∧ yXMe_init.cls ≠ "java/lang/invoke/VarHandle" ∧ (parseMethodDescriptor yXMe_init.desc).map (fun d => d.parameters.length) = some 5 := by decide +kernel
theorem dXMe_init_0 : decode cXMe_init 0 = .ok (.aload_n 0, 1) := by decide +kernel
theorem dXMe_init_1 : decode cXMe_init 1 = .ok (.invokespecial 1, 3) := by decide +kernel
theorem dXMe_init_4 : decode cXMe_init 4 = .ok (.aload_n 0, 1) := by decide +kernel
theorem dXMe_init_5 : decode cXMe_init 5 = .ok (.aload_n 1, 1) := by decide +kernel
theorem dXMe_init_6 : decode cXMe_init 6 = .ok (.putfield 7, 3) := by decide +kernel
theorem dXMe_init_9 : decode cXMe_init 9 = .ok (.aload_n 0, 1) := by decide +kernel
theorem dXMe_init_10 : decode cXMe_init 10 = .ok (.iload_n 2, 1) := by decide +kernel
theorem dXMe_init_11 : decode cXMe_init 11 = .ok (.putfield 13, 3) := by decide +kernel
theorem dXMe_init_14 : decode cXMe_init 14 = .ok (.aload_n 0, 1) := by decide +kernel
theorem dXMe_init_15 : decode cXMe_init 15 = .ok (.iload_n 3, 1) := by decide +kernel
theorem dXMe_init_16 : decode cXMe_init 16 = .ok (.putfield 17, 3) := by decide +kernel
theorem dXMe_init_19 : decode cXMe_init 19 = .ok (.aload_n 0, 1) := by decide +kernel
theorem dXMe_init_20 : decode cXMe_init 20 = .ok (.lload 4, 2) := by decide +kernel
theorem dXMe_init_22 : decode cXMe_init 22 = .ok (.putfield 20, 3) := by decide +kernel
theorem dXMe_init_25 : decode cXMe_init 25 = .ok (.aload_n 0, 1) := by decide +kernel
theorem dXMe_init_26 : decode cXMe_init 26 = .ok (.lload 6, 2) := by decide +kernel
theorem dXMe_init_28 : decode cXMe_init 28 = .ok (.putfield 24, 3) := by decide +kernel
theorem dXMe_init_31 : decode cXMe_init 31 = .ok (.return_, 1) := by decide +kernel
abbrev cXKn_candidate : ByteArray := prog_4_method_6_code
def yXKn_candidate : MethodName := ⟨RXKn, "candidate", "(LHashLinkedWeb$Operation;)LHashLinkedWeb$Member;"⟩
set_option maxRecDepth 100000 in
theorem qXKn_candidate : Cond.code yXKn_candidate cXKn_candidate 9 (some (.object "HashLinkedWeb$Member")) ∈ lg_tbl := fx_c 395 rfl
theorem hdXKn_candidate : yXKn_candidate.cls = RXKn ∧ yXKn_candidate.cls ≠ "java/lang/invoke/MethodHandle" ∧ yXKn_candidate.cls ≠ "java/lang/invoke/VarHandle" ∧ (parseMethodDescriptor yXKn_candidate.desc).map (fun d => d.parameters.length) = some 1 := by decide +kernel
theorem dXKn_candidate_0 : decode cXKn_candidate 0 = .ok (.iconst 1, 1) := by decide +kernel
theorem dXKn_candidate_1 : decode cXKn_candidate 1 = .ok (.istore_n 2, 1) := by decide +kernel
theorem dXKn_candidate_2 : decode cXKn_candidate 2 = .ok (.lconst 0, 1) := by decide +kernel
theorem dXKn_candidate_3 : decode cXKn_candidate 3 = .ok (.lstore_n 3, 1) := by decide +kernel
theorem dXKn_candidate_4 : decode cXKn_candidate 4 = .ok (.lconst 0, 1) := by decide +kernel
theorem dXKn_candidate_5 : decode cXKn_candidate 5 = .ok (.lstore 5, 2) := by decide +kernel
theorem dXKn_candidate_7 : decode cXKn_candidate 7 = .ok (.iconst 0, 1) := by decide +kernel
theorem dXKn_candidate_8 : decode cXKn_candidate 8 = .ok (.istore 7, 2) := by decide +kernel
theorem dXKn_candidate_10 : decode cXKn_candidate 10 = .ok (.iload 7, 2) := by decide +kernel
theorem dXKn_candidate_12 : decode cXKn_candidate 12 = .ok (.aload_n 1, 1) := by decide +kernel
theorem dXKn_candidate_13 : decode cXKn_candidate 13 = .ok (.getfield 49, 3) := by decide +kernel
theorem dXKn_candidate_16 : decode cXKn_candidate 16 = .ok (.arraylength, 1) := by decide +kernel
theorem dXKn_candidate_17 : decode cXKn_candidate 17 = .ok (.if_icmp .ge 59, 3) := by decide +kernel
theorem dXKn_candidate_20 : decode cXKn_candidate 20 = .ok (.aload_n 0, 1) := by decide +kernel
theorem dXKn_candidate_21 : decode cXKn_candidate 21 = .ok (.aload_n 1, 1) := by decide +kernel
theorem dXKn_candidate_22 : decode cXKn_candidate 22 = .ok (.getfield 49, 3) := by decide +kernel
theorem dXKn_candidate_25 : decode cXKn_candidate 25 = .ok (.iload 7, 2) := by decide +kernel
theorem dXKn_candidate_27 : decode cXKn_candidate 27 = .ok (.laload, 1) := by decide +kernel
theorem dXKn_candidate_28 : decode cXKn_candidate 28 = .ok (.invokevirtual 53, 3) := by decide +kernel
theorem dXKn_candidate_31 : decode cXKn_candidate 31 = .ok (.astore 8, 2) := by decide +kernel
theorem dXKn_candidate_33 : decode cXKn_candidate 33 = .ok (.aload 8, 2) := by decide +kernel
theorem dXKn_candidate_35 : decode cXKn_candidate 35 = .ok (.ifnull 35, 3) := by decide +kernel
theorem dXKn_candidate_38 : decode cXKn_candidate 38 = .ok (.iload_n 2, 1) := by decide +kernel
theorem dXKn_candidate_39 : decode cXKn_candidate 39 = .ok (.aload 8, 2) := by decide +kernel
theorem dXKn_candidate_41 : decode cXKn_candidate 41 = .ok (.getfield 57, 3) := by decide +kernel
theorem dXKn_candidate_44 : decode cXKn_candidate 44 = .ok (.iconst 1, 1) := by decide +kernel
theorem dXKn_candidate_45 : decode cXKn_candidate 45 = .ok (.iadd, 1) := by decide +kernel
theorem dXKn_candidate_46 : decode cXKn_candidate 46 = .ok (.invokestatic 60, 3) := by decide +kernel
theorem dXKn_candidate_49 : decode cXKn_candidate 49 = .ok (.istore_n 2, 1) := by decide +kernel
theorem dXKn_candidate_50 : decode cXKn_candidate 50 = .ok (.lload_n 3, 1) := by decide +kernel
theorem dXKn_candidate_51 : decode cXKn_candidate 51 = .ok (.lconst 1, 1) := by decide +kernel
theorem dXKn_candidate_52 : decode cXKn_candidate 52 = .ok (.aload 8, 2) := by decide +kernel
theorem dXKn_candidate_54 : decode cXKn_candidate 54 = .ok (.getfield 66, 3) := by decide +kernel
theorem dXKn_candidate_57 : decode cXKn_candidate 57 = .ok (.lshl, 1) := by decide +kernel
theorem dXKn_candidate_58 : decode cXKn_candidate 58 = .ok (.lor, 1) := by decide +kernel
theorem dXKn_candidate_59 : decode cXKn_candidate 59 = .ok (.lstore_n 3, 1) := by decide +kernel
theorem dXKn_candidate_60 : decode cXKn_candidate 60 = .ok (.lload 5, 2) := by decide +kernel
theorem dXKn_candidate_62 : decode cXKn_candidate 62 = .ok (.aload 8, 2) := by decide +kernel
theorem dXKn_candidate_64 : decode cXKn_candidate 64 = .ok (.getfield 69, 3) := by decide +kernel
theorem dXKn_candidate_67 : decode cXKn_candidate 67 = .ok (.lor, 1) := by decide +kernel
theorem dXKn_candidate_68 : decode cXKn_candidate 68 = .ok (.lstore 5, 2) := by decide +kernel
theorem dXKn_candidate_70 : decode cXKn_candidate 70 = .ok (.iinc 7 1, 3) := by decide +kernel
theorem dXKn_candidate_73 : decode cXKn_candidate 73 = .ok (.goto (-63), 3) := by decide +kernel
theorem dXKn_candidate_76 : decode cXKn_candidate 76 = .ok (.new 31, 3) := by decide +kernel
theorem dXKn_candidate_79 : decode cXKn_candidate 79 = .ok (.dup, 1) := by decide +kernel
theorem dXKn_candidate_80 : decode cXKn_candidate 80 = .ok (.aload_n 1, 1) := by decide +kernel
theorem dXKn_candidate_81 : decode cXKn_candidate 81 = .ok (.aload_n 0, 1) := by decide +kernel
theorem dXKn_candidate_82 : decode cXKn_candidate 82 = .ok (.getfield 12, 3) := by decide +kernel
theorem dXKn_candidate_85 : decode cXKn_candidate 85 = .ok (.getfield 18, 3) := by decide +kernel
theorem dXKn_candidate_88 : decode cXKn_candidate 88 = .ok (.iload_n 2, 1) := by decide +kernel
theorem dXKn_candidate_89 : decode cXKn_candidate 89 = .ok (.lload_n 3, 1) := by decide +kernel
theorem dXKn_candidate_90 : decode cXKn_candidate 90 = .ok (.lload_n 3, 1) := by decide +kernel
theorem dXKn_candidate_91 : decode cXKn_candidate 91 = .ok (.lload 5, 2) := by decide +kernel
theorem dXKn_candidate_93 : decode cXKn_candidate 93 = .ok (.lor, 1) := by decide +kernel
theorem dXKn_candidate_94 : decode cXKn_candidate 94 = .ok (.invokespecial 72, 3) := by decide +kernel
theorem dXKn_candidate_97 : decode cXKn_candidate 97 = .ok (.areturn, 1) := by decide +kernel
