abbrev cXRo_init : ByteArray := prog_8_method_1_code
def yXRo_init : MethodName := ⟨RXRo, "<init>", "()V"⟩
set_option maxRecDepth 100000 in
theorem qXRo_init : Cond.code yXRo_init cXRo_init 1 none ∈ lg_tbl := fx_c 72 rfl
theorem hdXRo_init : yXRo_init.cls = RXRo ∧ yXRo_init.cls ≠ "java/lang/invoke/MethodHandle" ∧ yXRo_init.cls ≠ "java/lang/invoke/VarHandle" ∧ (parseMethodDescriptor yXRo_init.desc).map (fun d => d.parameters.length) = some 0 := by decide +kernel
theorem dXRo_init_0 : decode cXRo_init 0 = .ok (.aload_n 0, 1) := by decide +kernel
theorem dXRo_init_1 : decode cXRo_init 1 = .ok (.invokespecial 3, 3) := by decide +kernel
theorem dXRo_init_4 : decode cXRo_init 4 = .ok (.aload_n 0, 1) := by decide +kernel
theorem dXRo_init_5 : decode cXRo_init 5 = .ok (.bipush 40, 2) := by decide +kernel
theorem dXRo_init_7 : decode cXRo_init 7 = .ok (.anewarray 9, 3) := by decide +kernel
theorem dXRo_init_10 : decode cXRo_init 10 = .ok (.putfield 11, 3) := by decide +kernel
theorem dXRo_init_13 : decode cXRo_init 13 = .ok (.return_, 1) := by decide +kernel
abbrev cXKn_init : ByteArray := prog_4_method_1_code
def yXKn_init : MethodName := ⟨RXKn, "<init>", "()V"⟩
set_option maxRecDepth 100000 in
theorem qXKn_init : Cond.code yXKn_init cXKn_init 1 none ∈ lg_tbl := fx_c 66 rfl
theorem hdXKn_init : yXKn_init.cls = RXKn ∧ yXKn_init.cls ≠ "java/lang/invoke/MethodHandle" ∧ yXKn_init.cls ≠ "java/lang/invoke/VarHandle" ∧ (parseMethodDescriptor yXKn_init.desc).map (fun d => d.parameters.length) = some 0 := by decide +kernel
theorem dXKn_init_0 : decode cXKn_init 0 = .ok (.aload_n 0, 1) := by decide +kernel
theorem dXKn_init_1 : decode cXKn_init 1 = .ok (.invokespecial 3, 3) := by decide +kernel
theorem dXKn_init_4 : decode cXKn_init 4 = .ok (.aload_n 0, 1) := by decide +kernel
theorem dXKn_init_5 : decode cXKn_init 5 = .ok (.new 9, 3) := by decide +kernel
theorem dXKn_init_8 : decode cXKn_init 8 = .ok (.dup, 1) := by decide +kernel
theorem dXKn_init_9 : decode cXKn_init 9 = .ok (.invokespecial 11, 3) := by decide +kernel
theorem dXKn_init_12 : decode cXKn_init 12 = .ok (.putfield 12, 3) := by decide +kernel
theorem dXKn_init_15 : decode cXKn_init 15 = .ok (.return_, 1) := by decide +kernel
abbrev cXBC_init : ByteArray := prog_16_method_1_code
def yXBC_init : MethodName := ⟨RXBC, "<init>", "()V"⟩
set_option maxRecDepth 100000 in
theorem qXBC_init : Cond.code yXBC_init cXBC_init 1 none ∈ lg_tbl := fx_c 114 rfl
theorem hdXBC_init : yXBC_init.cls = RXBC ∧ yXBC_init.cls ≠ "java/lang/invoke/MethodHandle" ∧ yXBC_init.cls ≠ "java/lang/invoke/VarHandle" ∧ (parseMethodDescriptor yXBC_init.desc).map (fun d => d.parameters.length) = some 0 := by decide +kernel
theorem dXBC_init_0 : decode cXBC_init 0 = .ok (.aload_n 0, 1) := by decide +kernel
theorem dXBC_init_1 : decode cXBC_init 1 = .ok (.invokespecial 1, 3) := by decide +kernel
theorem dXBC_init_4 : decode cXBC_init 4 = .ok (.return_, 1) := by decide +kernel
abbrev cXBL_init : ByteArray := prog_17_method_1_code
def yXBL_init : MethodName := ⟨RXBL, "<init>", "()V"⟩
set_option maxRecDepth 100000 in
theorem qXBL_init : Cond.code yXBL_init cXBL_init 1 none ∈ lg_tbl := fx_c 111 rfl
theorem hdXBL_init : yXBL_init.cls = RXBL ∧ yXBL_init.cls ≠ "java/lang/invoke/MethodHandle" ∧ yXBL_init.cls ≠ "java/lang/invoke/VarHandle" ∧ (parseMethodDescriptor yXBL_init.desc).map (fun d => d.parameters.length) = some 0 := by decide +kernel
theorem dXBL_init_0 : decode cXBL_init 0 = .ok (.aload_n 0, 1) := by decide +kernel
theorem dXBL_init_1 : decode cXBL_init 1 = .ok (.invokespecial 1, 3) := by decide +kernel
theorem dXBL_init_4 : decode cXBL_init 4 = .ok (.aload_n 0, 1) := by decide +kernel
theorem dXBL_init_5 : decode cXBL_init 5 = .ok (.iconst 0, 1) := by decide +kernel
theorem dXBL_init_6 : decode cXBL_init 6 = .ok (.putfield 7, 3) := by decide +kernel
theorem dXBL_init_9 : decode cXBL_init 9 = .ok (.return_, 1) := by decide +kernel
abbrev cXAL_init : ByteArray := prog_18_method_2_code
def yXAL_init : MethodName := ⟨RXAL, "<init>", "()V"⟩
set_option maxRecDepth 100000 in
theorem qXAL_init : Cond.code yXAL_init cXAL_init 1 none ∈ lg_tbl := fx_c 108 rfl
theorem hdXAL_init : yXAL_init.cls = RXAL ∧ yXAL_init.cls ≠ "java/lang/invoke/MethodHandle" ∧ yXAL_init.cls ≠ "java/lang/invoke/VarHandle" ∧ (parseMethodDescriptor yXAL_init.desc).map (fun d => d.parameters.length) = some 0 := by decide +kernel
theorem dXAL_init_0 : decode cXAL_init 0 = .ok (.aload_n 0, 1) := by decide +kernel
theorem dXAL_init_1 : decode cXAL_init 1 = .ok (.invokespecial 1, 3) := by decide +kernel
theorem dXAL_init_4 : decode cXAL_init 4 = .ok (.aload_n 0, 1) := by decide +kernel
theorem dXAL_init_5 : decode cXAL_init 5 = .ok (.getstatic 39, 3) := by decide +kernel
theorem dXAL_init_8 : decode cXAL_init 8 = .ok (.putfield 9, 3) := by decide +kernel
theorem dXAL_init_11 : decode cXAL_init 11 = .ok (.return_, 1) := by decide +kernel
abbrev cXRe_init : ByteArray := prog_7_method_1_code
def yXRe_init : MethodName := ⟨RXRe, "<init>", "(LHashLinkedWeb$Known;)V"⟩
set_option maxRecDepth 100000 in
theorem qXRe_init : Cond.code yXRe_init cXRe_init 2 none ∈ lg_tbl := fx_c 100 rfl
theorem hdXRe_init : yXRe_init.cls = RXRe ∧ yXRe_init.cls ≠ "java/lang/invoke/MethodHandle" ∧ yXRe_init.cls ≠ "java/lang/invoke/VarHandle" ∧ (parseMethodDescriptor yXRe_init.desc).map (fun d => d.parameters.length) = some 1 := by decide +kernel
theorem dXRe_init_0 : decode cXRe_init 0 = .ok (.aload_n 0, 1) := by decide +kernel
theorem dXRe_init_1 : decode cXRe_init 1 = .ok (.invokespecial 3, 3) := by decide +kernel
theorem dXRe_init_4 : decode cXRe_init 4 = .ok (.aload_n 0, 1) := by decide +kernel
theorem dXRe_init_5 : decode cXRe_init 5 = .ok (.new 9, 3) := by decide +kernel
theorem dXRe_init_8 : decode cXRe_init 8 = .ok (.dup, 1) := by decide +kernel
theorem dXRe_init_9 : decode cXRe_init 9 = .ok (.invokespecial 11, 3) := by decide +kernel
theorem dXRe_init_12 : decode cXRe_init 12 = .ok (.putfield 12, 3) := by decide +kernel
theorem dXRe_init_15 : decode cXRe_init 15 = .ok (.aload_n 0, 1) := by decide +kernel
theorem dXRe_init_16 : decode cXRe_init 16 = .ok (.new 9, 3) := by decide +kernel
theorem dXRe_init_19 : decode cXRe_init 19 = .ok (.dup, 1) := by decide +kernel
theorem dXRe_init_20 : decode cXRe_init 20 = .ok (.invokespecial 11, 3) := by decide +kernel
theorem dXRe_init_23 : decode cXRe_init 23 = .ok (.putfield 18, 3) := by decide +kernel
theorem dXRe_init_26 : decode cXRe_init 26 = .ok (.aload_n 0, 1) := by decide +kernel
theorem dXRe_init_27 : decode cXRe_init 27 = .ok (.new 21, 3) := by decide +kernel
theorem dXRe_init_30 : decode cXRe_init 30 = .ok (.dup, 1) := by decide +kernel
theorem dXRe_init_31 : decode cXRe_init 31 = .ok (.invokespecial 23, 3) := by decide +kernel
theorem dXRe_init_34 : decode cXRe_init 34 = .ok (.putfield 24, 3) := by decide +kernel
theorem dXRe_init_37 : decode cXRe_init 37 = .ok (.aload_n 0, 1) := by decide +kernel
theorem dXRe_init_38 : decode cXRe_init 38 = .ok (.aload_n 1, 1) := by decide +kernel
theorem dXRe_init_39 : decode cXRe_init 39 = .ok (.putfield 28, 3) := by decide +kernel
theorem dXRe_init_42 : decode cXRe_init 42 = .ok (.return_, 1) := by decide +kernel
abbrev cXDr_init : ByteArray := prog_3_method_1_code
def yXDr_init : MethodName := ⟨RXDr, "<init>", "()V"⟩
set_option maxRecDepth 100000 in
theorem qXDr_init : Cond.code yXDr_init cXDr_init 1 none ∈ lg_tbl := fx_c 155 rfl
theorem hdXDr_init : yXDr_init.cls = RXDr ∧ yXDr_init.cls ≠ "java/lang/invoke/MethodHandle" ∧ yXDr_init.cls ≠ "java/lang/invoke/VarHandle" ∧ (parseMethodDescriptor yXDr_init.desc).map (fun d => d.parameters.length) = some 0 := by decide +kernel
theorem dXDr_init_0 : decode cXDr_init 0 = .ok (.aload_n 0, 1) := by decide +kernel
theorem dXDr_init_1 : decode cXDr_init 1 = .ok (.invokespecial 3, 3) := by decide +kernel
theorem dXDr_init_4 : decode cXDr_init 4 = .ok (.aload_n 0, 1) := by decide +kernel
theorem dXDr_init_5 : decode cXDr_init 5 = .ok (.iconst 4, 1) := by decide +kernel
theorem dXDr_init_6 : decode cXDr_init 6 = .ok (.newarray .long, 2) := by decide +kernel
theorem dXDr_init_8 : decode cXDr_init 8 = .ok (.putfield 9, 3) := by decide +kernel
theorem dXDr_init_11 : decode cXDr_init 11 = .ok (.return_, 1) := by decide +kernel
abbrev cXW_init : ByteArray := prog_1_method_1_code
def yXW_init : MethodName := ⟨RXW, "<init>", "()V"⟩
set_option maxRecDepth 100000 in
theorem qXW_init : Cond.code yXW_init cXW_init 2 none ∈ lg_tbl := fx_c 58 rfl
theorem hdXW_init : yXW_init.cls = RXW ∧ yXW_init.cls ≠ "java/lang/invoke/MethodHandle" ∧ yXW_init.cls ≠ "java/lang/invoke/VarHandle" ∧ (parseMethodDescriptor yXW_init.desc).map (fun d => d.parameters.length) = some 0 := by decide +kernel
theorem dXW_init_0 : decode cXW_init 0 = .ok (.aload_n 0, 1) := by decide +kernel
theorem dXW_init_1 : decode cXW_init 1 = .ok (.invokespecial 1, 3) := by decide +kernel
theorem dXW_init_4 : decode cXW_init 4 = .ok (.aload_n 0, 1) := by decide +kernel
theorem dXW_init_5 : decode cXW_init 5 = .ok (.new 7, 3) := by decide +kernel
theorem dXW_init_8 : decode cXW_init 8 = .ok (.dup, 1) := by decide +kernel
theorem dXW_init_9 : decode cXW_init 9 = .ok (.invokespecial 9, 3) := by decide +kernel
theorem dXW_init_12 : decode cXW_init 12 = .ok (.putfield 10, 3) := by decide +kernel
theorem dXW_init_15 : decode cXW_init 15 = .ok (.aload_n 0, 1) := by decide +kernel
theorem dXW_init_16 : decode cXW_init 16 = .ok (.iconst 4, 1) := by decide +kernel
theorem dXW_init_17 : decode cXW_init 17 = .ok (.anewarray 16, 3) := by decide +kernel
theorem dXW_init_20 : decode cXW_init 20 = .ok (.putfield 18, 3) := by decide +kernel
theorem dXW_init_23 : decode cXW_init 23 = .ok (.iconst 0, 1) := by decide +kernel
theorem dXW_init_24 : decode cXW_init 24 = .ok (.istore_n 1, 1) := by decide +kernel
theorem dXW_init_25 : decode cXW_init 25 = .ok (.iload_n 1, 1) := by decide +kernel
theorem dXW_init_26 : decode cXW_init 26 = .ok (.iconst 4, 1) := by decide +kernel
theorem dXW_init_27 : decode cXW_init 27 = .ok (.if_icmp .ge 26, 3) := by decide +kernel
theorem dXW_init_30 : decode cXW_init 30 = .ok (.aload_n 0, 1) := by decide +kernel
theorem dXW_init_31 : decode cXW_init 31 = .ok (.getfield 18, 3) := by decide +kernel
theorem dXW_init_34 : decode cXW_init 34 = .ok (.iload_n 1, 1) := by decide +kernel
theorem dXW_init_35 : decode cXW_init 35 = .ok (.new 16, 3) := by decide +kernel
theorem dXW_init_38 : decode cXW_init 38 = .ok (.dup, 1) := by decide +kernel
theorem dXW_init_39 : decode cXW_init 39 = .ok (.aload_n 0, 1) := by decide +kernel
theorem dXW_init_40 : decode cXW_init 40 = .ok (.getfield 10, 3) := by decide +kernel
theorem dXW_init_43 : decode cXW_init 43 = .ok (.invokespecial 22, 3) := by decide +kernel
theorem dXW_init_46 : decode cXW_init 46 = .ok (.aastore, 1) := by decide +kernel
theorem dXW_init_47 : decode cXW_init 47 = .ok (.iinc 1 1, 3) := by decide +kernel
theorem dXW_init_50 : decode cXW_init 50 = .ok (.goto (-25), 3) := by decide +kernel
theorem dXW_init_53 : decode cXW_init 53 = .ok (.aload_n 0, 1) := by decide +kernel
theorem dXW_init_54 : decode cXW_init 54 = .ok (.new 25, 3) := by decide +kernel
theorem dXW_init_57 : decode cXW_init 57 = .ok (.dup, 1) := by decide +kernel
theorem dXW_init_58 : decode cXW_init 58 = .ok (.invokespecial 27, 3) := by decide +kernel
theorem dXW_init_61 : decode cXW_init 61 = .ok (.putfield 28, 3) := by decide +kernel
theorem dXW_init_64 : decode cXW_init 64 = .ok (.aload_n 0, 1) := by decide +kernel
theorem dXW_init_65 : decode cXW_init 65 = .ok (.new 25, 3) := by decide +kernel
theorem dXW_init_68 : decode cXW_init 68 = .ok (.dup, 1) := by decide +kernel
theorem dXW_init_69 : decode cXW_init 69 = .ok (.invokespecial 27, 3) := by decide +kernel
theorem dXW_init_72 : decode cXW_init 72 = .ok (.putfield 32, 3) := by decide +kernel
theorem dXW_init_75 : decode cXW_init 75 = .ok (.return_, 1) := by decide +kernel
abbrev cXW_replicaAt : ByteArray := prog_1_method_19_code
def yXW_replicaAt : MethodName := ⟨RXW, "replicaAt", "(I)LHashLinkedWeb$Replica;"⟩
set_option maxRecDepth 100000 in
theorem qXW_replicaAt : Cond.code yXW_replicaAt cXW_replicaAt 2 (some (.object "HashLinkedWeb$Replica")) ∈ lg_tbl := fx_c 197 rfl
theorem hdXW_replicaAt : yXW_replicaAt.cls = RXW ∧ yXW_replicaAt.cls ≠ "java/lang/invoke/MethodHandle" ∧ yXW_replicaAt.cls ≠ "java/lang/invoke/VarHandle" ∧ (parseMethodDescriptor yXW_replicaAt.desc).map (fun d => d.parameters.length) = some 1 := by decide +kernel
theorem dXW_replicaAt_0 : decode cXW_replicaAt 0 = .ok (.iload_n 1, 1) := by decide +kernel
theorem dXW_replicaAt_1 : decode cXW_replicaAt 1 = .ok (.ifCond .lt 8, 3) := by decide +kernel
theorem dXW_replicaAt_4 : decode cXW_replicaAt 4 = .ok (.iload_n 1, 1) := by decide +kernel
theorem dXW_replicaAt_5 : decode cXW_replicaAt 5 = .ok (.iconst 4, 1) := by decide +kernel
theorem dXW_replicaAt_6 : decode cXW_replicaAt 6 = .ok (.if_icmp .lt 7, 3) := by decide +kernel
theorem dXW_replicaAt_9 : decode cXW_replicaAt 9 = .ok (.aconst_null, 1) := by decide +kernel
theorem dXW_replicaAt_10 : decode cXW_replicaAt 10 = .ok (.goto 9, 3) := by decide +kernel
theorem dXW_replicaAt_13 : decode cXW_replicaAt 13 = .ok (.aload_n 0, 1) := by decide +kernel
theorem dXW_replicaAt_14 : decode cXW_replicaAt 14 = .ok (.getfield 18, 3) := by decide +kernel
theorem dXW_replicaAt_17 : decode cXW_replicaAt 17 = .ok (.iload_n 1, 1) := by decide +kernel
theorem dXW_replicaAt_18 : decode cXW_replicaAt 18 = .ok (.aaload, 1) := by decide +kernel
theorem dXW_replicaAt_19 : decode cXW_replicaAt 19 = .ok (.areturn, 1) := by decide +kernel
abbrev cXDr_begin : ByteArray := prog_3_method_2_code
def yXDr_begin : MethodName := ⟨RXDr, "begin", "(IIII)V"⟩
set_option maxRecDepth 100000 in
theorem qXDr_begin : Cond.code yXDr_begin cXDr_begin 5 none ∈ lg_tbl := fx_c 201 rfl
theorem hdXDr_begin : yXDr_begin.cls = RXDr ∧ yXDr_begin.cls ≠ "java/lang/invoke/MethodHandle" ∧ yXDr_begin.cls ≠ "java/lang/invoke/VarHandle" ∧ (parseMethodDescriptor yXDr_begin.desc).map (fun d => d.parameters.length) = some 4 := by decide +kernel
theorem dXDr_begin_0 : decode cXDr_begin 0 = .ok (.aload_n 0, 1) := by decide +kernel
theorem dXDr_begin_1 : decode cXDr_begin 1 = .ok (.iload_n 1, 1) := by decide +kernel
theorem dXDr_begin_2 : decode cXDr_begin 2 = .ok (.putfield 15, 3) := by decide +kernel
theorem dXDr_begin_5 : decode cXDr_begin 5 = .ok (.aload_n 0, 1) := by decide +kernel
theorem dXDr_begin_6 : decode cXDr_begin 6 = .ok (.iload_n 2, 1) := by decide +kernel
theorem dXDr_begin_7 : decode cXDr_begin 7 = .ok (.putfield 19, 3) := by decide +kernel
theorem dXDr_begin_10 : decode cXDr_begin 10 = .ok (.aload_n 0, 1) := by decide +kernel
theorem dXDr_begin_11 : decode cXDr_begin 11 = .ok (.iload_n 3, 1) := by decide +kernel
theorem dXDr_begin_12 : decode cXDr_begin 12 = .ok (.putfield 22, 3) := by decide +kernel
theorem dXDr_begin_15 : decode cXDr_begin 15 = .ok (.aload_n 0, 1) := by decide +kernel
theorem dXDr_begin_16 : decode cXDr_begin 16 = .ok (.iload 4, 2) := by decide +kernel
theorem dXDr_begin_18 : decode cXDr_begin 18 = .ok (.putfield 25, 3) := by decide +kernel
theorem dXDr_begin_21 : decode cXDr_begin 21 = .ok (.aload_n 0, 1) := by decide +kernel
theorem dXDr_begin_22 : decode cXDr_begin 22 = .ok (.iconst 0, 1) := by decide +kernel
theorem dXDr_begin_23 : decode cXDr_begin 23 = .ok (.putfield 28, 3) := by decide +kernel
theorem dXDr_begin_26 : decode cXDr_begin 26 = .ok (.return_, 1) := by decide +kernel
abbrev cXRo_at : ByteArray := prog_8_method_2_code
def yXRo_at : MethodName := ⟨RXRo, "at", "(I)LHashLinkedWeb$Member;"⟩
set_option maxRecDepth 100000 in
theorem qXRo_at : Cond.code yXRo_at cXRo_at 2 (some (.object "HashLinkedWeb$Member")) ∈ lg_tbl := fx_c 211 rfl
theorem hdXRo_at : yXRo_at.cls = RXRo ∧ yXRo_at.cls ≠ "java/lang/invoke/MethodHandle" ∧ yXRo_at.cls ≠ "java/lang/invoke/VarHandle" ∧ (parseMethodDescriptor yXRo_at.desc).map (fun d => d.parameters.length) = some 1 := by decide +kernel
theorem dXRo_at_0 : decode cXRo_at 0 = .ok (.iload_n 1, 1) := by decide +kernel
theorem dXRo_at_1 : decode cXRo_at 1 = .ok (.ifCond .lt 11, 3) := by decide +kernel
theorem dXRo_at_4 : decode cXRo_at 4 = .ok (.iload_n 1, 1) := by decide +kernel
theorem dXRo_at_5 : decode cXRo_at 5 = .ok (.aload_n 0, 1) := by decide +kernel
theorem dXRo_at_6 : decode cXRo_at 6 = .ok (.getfield 17, 3) := by decide +kernel
theorem dXRo_at_9 : decode cXRo_at 9 = .ok (.if_icmp .lt 7, 3) := by decide +kernel
theorem dXRo_at_12 : decode cXRo_at 12 = .ok (.aconst_null, 1) := by decide +kernel
theorem dXRo_at_13 : decode cXRo_at 13 = .ok (.goto 9, 3) := by decide +kernel
theorem dXRo_at_16 : decode cXRo_at 16 = .ok (.aload_n 0, 1) := by decide +kernel
theorem dXRo_at_17 : decode cXRo_at 17 = .ok (.getfield 11, 3) := by decide +kernel
theorem dXRo_at_20 : decode cXRo_at 20 = .ok (.iload_n 1, 1) := by decide +kernel
theorem dXRo_at_21 : decode cXRo_at 21 = .ok (.aaload, 1) := by decide +kernel
theorem dXRo_at_22 : decode cXRo_at 22 = .ok (.areturn, 1) := by decide +kernel
abbrev cXW_headHash : ByteArray := prog_1_method_21_code
def yXW_headHash : MethodName := ⟨RXW, "headHash", "(LHashLinkedWeb$Replica;I)J"⟩
set_option maxRecDepth 100000 in
theorem qXW_headHash : Cond.code yXW_headHash cXW_headHash 3 (some .long) ∈ lg_tbl := fx_c 207 rfl
theorem hdXW_headHash : yXW_headHash.cls = RXW ∧ yXW_headHash.cls ≠ "java/lang/invoke/MethodHandle" ∧ yXW_headHash.cls ≠ "java/lang/invoke/VarHandle" ∧ (parseMethodDescriptor yXW_headHash.desc).map (fun d => d.parameters.length) = some 2 := by decide +kernel
theorem dXW_headHash_0 : decode cXW_headHash 0 = .ok (.aload_n 0, 1) := by decide +kernel
theorem dXW_headHash_1 : decode cXW_headHash 1 = .ok (.getfield 43, 3) := by decide +kernel
theorem dXW_headHash_4 : decode cXW_headHash 4 = .ok (.iload_n 1, 1) := by decide +kernel
theorem dXW_headHash_5 : decode cXW_headHash 5 = .ok (.invokevirtual 155, 3) := by decide +kernel
theorem dXW_headHash_8 : decode cXW_headHash 8 = .ok (.astore_n 2, 1) := by decide +kernel
theorem dXW_headHash_9 : decode cXW_headHash 9 = .ok (.aload_n 2, 1) := by decide +kernel
theorem dXW_headHash_10 : decode cXW_headHash 10 = .ok (.ifnonnull 7, 3) := by decide +kernel
theorem dXW_headHash_13 : decode cXW_headHash 13 = .ok (.lconst 0, 1) := by decide +kernel
theorem dXW_headHash_14 : decode cXW_headHash 14 = .ok (.goto 10, 3) := by decide +kernel
theorem dXW_headHash_17 : decode cXW_headHash 17 = .ok (.aload_n 2, 1) := by decide +kernel
theorem dXW_headHash_18 : decode cXW_headHash 18 = .ok (.getfield 123, 3) := by decide +kernel
theorem dXW_headHash_21 : decode cXW_headHash 21 = .ok (.getfield 75, 3) := by decide +kernel
theorem dXW_headHash_24 : decode cXW_headHash 24 = .ok (.lreturn, 1) := by decide +kernel
abbrev cXDr_append : ByteArray := prog_3_method_3_code
def yXDr_append : MethodName := ⟨RXDr, "append", "(J)Z"⟩
set_option maxRecDepth 100000 in
theorem qXDr_append : Cond.code yXDr_append cXDr_append 3 (some .boolean) ∈ lg_tbl := fx_c 215 rfl
theorem hdXDr_append : yXDr_append.cls = RXDr ∧ yXDr_append.cls ≠ "java/lang/invoke/MethodHandle" ∧ yXDr_append.cls ≠ "java/lang/invoke/VarHandle" ∧ (parseMethodDescriptor yXDr_append.desc).map (fun d => d.parameters.length) = some 1 := by decide +kernel
theorem dXDr_append_0 : decode cXDr_append 0 = .ok (.aload_n 0, 1) := by decide +kernel
theorem dXDr_append_1 : decode cXDr_append 1 = .ok (.getfield 28, 3) := by decide +kernel
theorem dXDr_append_4 : decode cXDr_append 4 = .ok (.iconst 4, 1) := by decide +kernel
theorem dXDr_append_5 : decode cXDr_append 5 = .ok (.if_icmp .lt 5, 3) := by decide +kernel
theorem dXDr_append_8 : decode cXDr_append 8 = .ok (.iconst 0, 1) := by decide +kernel
theorem dXDr_append_9 : decode cXDr_append 9 = .ok (.ireturn, 1) := by decide +kernel
theorem dXDr_append_10 : decode cXDr_append 10 = .ok (.aload_n 0, 1) := by decide +kernel
theorem dXDr_append_11 : decode cXDr_append 11 = .ok (.getfield 9, 3) := by decide +kernel
theorem dXDr_append_14 : decode cXDr_append 14 = .ok (.aload_n 0, 1) := by decide +kernel
theorem dXDr_append_15 : decode cXDr_append 15 = .ok (.getfield 28, 3) := by decide +kernel
theorem dXDr_append_18 : decode cXDr_append 18 = .ok (.lload_n 1, 1) := by decide +kernel
theorem dXDr_append_19 : decode cXDr_append 19 = .ok (.lastore, 1) := by decide +kernel
theorem dXDr_append_20 : decode cXDr_append 20 = .ok (.aload_n 0, 1) := by decide +kernel
theorem dXDr_append_21 : decode cXDr_append 21 = .ok (.dup, 1) := by decide +kernel
theorem dXDr_append_22 : decode cXDr_append 22 = .ok (.getfield 28, 3) := by decide +kernel
theorem dXDr_append_25 : decode cXDr_append 25 = .ok (.iconst 1, 1) := by decide +kernel
theorem dXDr_append_26 : decode cXDr_append 26 = .ok (.iadd, 1) := by decide +kernel
theorem dXDr_append_27 : decode cXDr_append 27 = .ok (.putfield 28, 3) := by decide +kernel
theorem dXDr_append_30 : decode cXDr_append 30 = .ok (.iconst 1, 1) := by decide +kernel
theorem dXDr_append_31 : decode cXDr_append 31 = .ok (.ireturn, 1) := by decide +kernel
abbrev cXAr_copyOf : ByteArray := prog_19_method_124_code
def yXAr_copyOf : MethodName := ⟨RXAr, "copyOf", "([JI)[J"⟩
set_option maxRecDepth 100000 in
theorem qXAr_copyOf : Cond.code yXAr_copyOf cXAr_copyOf 3 (some (.array .long)) ∈ lg_tbl := fx_c 224 rfl
theorem hdXAr_copyOf : yXAr_copyOf.cls = RXAr ∧ yXAr_copyOf.cls ≠ "java/lang/invoke/MethodHandle" ∧ yXAr_copyOf.cls ≠ "java/lang/invoke/VarHandle" ∧ (parseMethodDescriptor yXAr_copyOf.desc).map (fun d => d.parameters.length) = some 2 := by decide +kernel
theorem dXAr_copyOf_0 : decode cXAr_copyOf 0 = .ok (.iload_n 1, 1) := by decide +kernel
theorem dXAr_copyOf_1 : decode cXAr_copyOf 1 = .ok (.aload_n 0, 1) := by decide +kernel
theorem dXAr_copyOf_2 : decode cXAr_copyOf 2 = .ok (.arraylength, 1) := by decide +kernel
theorem dXAr_copyOf_3 : decode cXAr_copyOf 3 = .ok (.if_icmp .ne 11, 3) := by decide +kernel
theorem dXAr_copyOf_6 : decode cXAr_copyOf 6 = .ok (.aload_n 0, 1) := by decide +kernel
theorem dXAr_copyOf_7 : decode cXAr_copyOf 7 = .ok (.invokevirtual 319, 3) := by decide +kernel
theorem dXAr_copyOf_10 : decode cXAr_copyOf 10 = .ok (.checkcast 320, 3) := by decide +kernel
theorem dXAr_copyOf_13 : decode cXAr_copyOf 13 = .ok (.areturn, 1) := by decide +kernel
theorem dXAr_copyOf_14 : decode cXAr_copyOf 14 = .ok (.iload_n 1, 1) := by decide +kernel
theorem dXAr_copyOf_15 : decode cXAr_copyOf 15 = .ok (.newarray .long, 2) := by decide +kernel
theorem dXAr_copyOf_17 : decode cXAr_copyOf 17 = .ok (.astore_n 2, 1) := by decide +kernel
theorem dXAr_copyOf_18 : decode cXAr_copyOf 18 = .ok (.aload_n 0, 1) := by decide +kernel
theorem dXAr_copyOf_19 : decode cXAr_copyOf 19 = .ok (.iconst 0, 1) := by decide +kernel
theorem dXAr_copyOf_20 : decode cXAr_copyOf 20 = .ok (.aload_n 2, 1) := by decide +kernel
theorem dXAr_copyOf_21 : decode cXAr_copyOf 21 = .ok (.iconst 0, 1) := by decide +kernel
theorem dXAr_copyOf_22 : decode cXAr_copyOf 22 = .ok (.aload_n 0, 1) := by decide +kernel
theorem dXAr_copyOf_23 : decode cXAr_copyOf 23 = .ok (.arraylength, 1) := by decide +kernel
theorem dXAr_copyOf_24 : decode cXAr_copyOf 24 = .ok (.iload_n 1, 1) := by decide +kernel
theorem dXAr_copyOf_25 : decode cXAr_copyOf 25 = .ok (.invokestatic 304, 3) := by decide +kernel
theorem dXAr_copyOf_28 : decode cXAr_copyOf 28 = .ok (.invokestatic 150, 3) := by decide +kernel
theorem dXAr_copyOf_31 : decode cXAr_copyOf 31 = .ok (.aload_n 2, 1) := by decide +kernel
theorem dXAr_copyOf_32 : decode cXAr_copyOf 32 = .ok (.areturn, 1) := by decide +kernel
abbrev cXOp_takeIn : ByteArray := prog_6_method_2_code
def yXOp_takeIn : MethodName := ⟨RXOp, "takeIn", "(JJ)J"⟩
set_option maxRecDepth 100000 in
theorem qXOp_takeIn : Cond.code yXOp_takeIn cXOp_takeIn 6 (some .long) ∈ lg_tbl := fx_c 245 rfl
theorem hdXOp_takeIn : yXOp_takeIn.cls = RXOp ∧ yXOp_takeIn.cls ≠ "java/lang/invoke/MethodHandle" ∧ yXOp_takeIn.cls ≠ "java/lang/invoke/VarHandle" ∧ (parseMethodDescriptor yXOp_takeIn.desc).map (fun d => d.parameters.length) = some 2 := by decide +kernel
theorem dXOp_takeIn_0 : decode cXOp_takeIn 0 = .ok (.lload_n 0, 1) := by decide +kernel
theorem dXOp_takeIn_1 : decode cXOp_takeIn 1 = .ok (.lload_n 2, 1) := by decide +kernel
theorem dXOp_takeIn_2 : decode cXOp_takeIn 2 = .ok (.lxor, 1) := by decide +kernel
theorem dXOp_takeIn_3 : decode cXOp_takeIn 3 = .ok (.ldc2_w 38, 3) := by decide +kernel
theorem dXOp_takeIn_6 : decode cXOp_takeIn 6 = .ok (.lmul, 1) := by decide +kernel
theorem dXOp_takeIn_7 : decode cXOp_takeIn 7 = .ok (.lstore 4, 2) := by decide +kernel
theorem dXOp_takeIn_9 : decode cXOp_takeIn 9 = .ok (.lload 4, 2) := by decide +kernel
theorem dXOp_takeIn_11 : decode cXOp_takeIn 11 = .ok (.lload 4, 2) := by decide +kernel
theorem dXOp_takeIn_13 : decode cXOp_takeIn 13 = .ok (.bipush 29, 2) := by decide +kernel
theorem dXOp_takeIn_15 : decode cXOp_takeIn 15 = .ok (.lushr, 1) := by decide +kernel
theorem dXOp_takeIn_16 : decode cXOp_takeIn 16 = .ok (.lxor, 1) := by decide +kernel
theorem dXOp_takeIn_17 : decode cXOp_takeIn 17 = .ok (.lreturn, 1) := by decide +kernel
abbrev cXOp_init : ByteArray := prog_6_method_1_code
def yXOp_init : MethodName := ⟨RXOp, "<init>", "(IIII[J)V"⟩
set_option maxRecDepth 100000 in
theorem qXOp_init : Cond.code yXOp_init cXOp_init 9 none ∈ lg_tbl := fx_c 240 rfl
theorem hdXOp_init : yXOp_init.cls = RXOp ∧ yXOp_init.cls ≠ "java/lang/invoke/MethodHandle" ∧ yXOp_init.cls ≠ "java/lang/invoke/VarHandle" ∧ (parseMethodDescriptor yXOp_init.desc).map (fun d => d.parameters.length) = some 5 := by decide +kernel
theorem dXOp_init_0 : decode cXOp_init 0 = .ok (.aload_n 0, 1) := by decide +kernel
theorem dXOp_init_1 : decode cXOp_init 1 = .ok (.invokespecial 3, 3) := by decide +kernel
theorem dXOp_init_4 : decode cXOp_init 4 = .ok (.aload_n 0, 1) := by decide +kernel
theorem dXOp_init_5 : decode cXOp_init 5 = .ok (.iload_n 1, 1) := by decide +kernel
theorem dXOp_init_6 : decode cXOp_init 6 = .ok (.putfield 9, 3) := by decide +kernel
theorem dXOp_init_9 : decode cXOp_init 9 = .ok (.aload_n 0, 1) := by decide +kernel
theorem dXOp_init_10 : decode cXOp_init 10 = .ok (.iload_n 2, 1) := by decide +kernel
theorem dXOp_init_11 : decode cXOp_init 11 = .ok (.putfield 15, 3) := by decide +kernel
theorem dXOp_init_14 : decode cXOp_init 14 = .ok (.aload_n 0, 1) := by decide +kernel
theorem dXOp_init_15 : decode cXOp_init 15 = .ok (.iload_n 3, 1) := by decide +kernel
theorem dXOp_init_16 : decode cXOp_init 16 = .ok (.putfield 18, 3) := by decide +kernel
theorem dXOp_init_19 : decode cXOp_init 19 = .ok (.aload_n 0, 1) := by decide +kernel
theorem dXOp_init_20 : decode cXOp_init 20 = .ok (.iload 4, 2) := by decide +kernel
theorem dXOp_init_22 : decode cXOp_init 22 = .ok (.putfield 21, 3) := by decide +kernel
theorem dXOp_init_25 : decode cXOp_init 25 = .ok (.aload_n 0, 1) := by decide +kernel
theorem dXOp_init_26 : decode cXOp_init 26 = .ok (.aload 5, 2) := by decide +kernel
theorem dXOp_init_28 : decode cXOp_init 28 = .ok (.putfield 24, 3) := by decide +kernel
theorem dXOp_init_31 : decode cXOp_init 31 = .ok (.ldc2_w 28, 3) := by decide +kernel
theorem dXOp_init_34 : decode cXOp_init 34 = .ok (.iload_n 1, 1) := by decide +kernel
theorem dXOp_init_35 : decode cXOp_init 35 = .ok (.i2l, 1) := by decide +kernel
theorem dXOp_init_36 : decode cXOp_init 36 = .ok (.invokestatic 30, 3) := by decide +kernel
theorem dXOp_init_39 : decode cXOp_init 39 = .ok (.lstore 6, 2) := by decide +kernel
theorem dXOp_init_41 : decode cXOp_init 41 = .ok (.lload 6, 2) := by decide +kernel
theorem dXOp_init_43 : decode cXOp_init 43 = .ok (.iload_n 2, 1) := by decide +kernel
theorem dXOp_init_44 : decode cXOp_init 44 = .ok (.i2l, 1) := by decide +kernel
theorem dXOp_init_45 : decode cXOp_init 45 = .ok (.invokestatic 30, 3) := by decide +kernel
theorem dXOp_init_48 : decode cXOp_init 48 = .ok (.lstore 6, 2) := by decide +kernel
theorem dXOp_init_50 : decode cXOp_init 50 = .ok (.lload 6, 2) := by decide +kernel
theorem dXOp_init_52 : decode cXOp_init 52 = .ok (.iload_n 3, 1) := by decide +kernel
theorem dXOp_init_53 : decode cXOp_init 53 = .ok (.i2l, 1) := by decide +kernel
theorem dXOp_init_54 : decode cXOp_init 54 = .ok (.invokestatic 30, 3) := by decide +kernel
theorem dXOp_init_57 : decode cXOp_init 57 = .ok (.lstore 6, 2) := by decide +kernel
theorem dXOp_init_59 : decode cXOp_init 59 = .ok (.lload 6, 2) := by decide +kernel
theorem dXOp_init_61 : decode cXOp_init 61 = .ok (.iload 4, 2) := by decide +kernel
theorem dXOp_init_63 : decode cXOp_init 63 = .ok (.i2l, 1) := by decide +kernel
theorem dXOp_init_64 : decode cXOp_init 64 = .ok (.invokestatic 30, 3) := by decide +kernel
theorem dXOp_init_67 : decode cXOp_init 67 = .ok (.lstore 6, 2) := by decide +kernel
theorem dXOp_init_69 : decode cXOp_init 69 = .ok (.lload 6, 2) := by decide +kernel
theorem dXOp_init_71 : decode cXOp_init 71 = .ok (.aload 5, 2) := by decide +kernel
theorem dXOp_init_73 : decode cXOp_init 73 = .ok (.arraylength, 1) := by decide +kernel
theorem dXOp_init_74 : decode cXOp_init 74 = .ok (.i2l, 1) := by decide +kernel
theorem dXOp_init_75 : decode cXOp_init 75 = .ok (.invokestatic 30, 3) := by decide +kernel
theorem dXOp_init_78 : decode cXOp_init 78 = .ok (.lstore 6, 2) := by decide +kernel
theorem dXOp_init_80 : decode cXOp_init 80 = .ok (.iconst 0, 1) := by decide +kernel
theorem dXOp_init_81 : decode cXOp_init 81 = .ok (.istore 8, 2) := by decide +kernel
theorem dXOp_init_83 : decode cXOp_init 83 = .ok (.iload 8, 2) := by decide +kernel
theorem dXOp_init_85 : decode cXOp_init 85 = .ok (.aload 5, 2) := by decide +kernel
theorem dXOp_init_87 : decode cXOp_init 87 = .ok (.arraylength, 1) := by decide +kernel
theorem dXOp_init_88 : decode cXOp_init 88 = .ok (.if_icmp .ge 21, 3) := by decide +kernel
theorem dXOp_init_91 : decode cXOp_init 91 = .ok (.lload 6, 2) := by decide +kernel
theorem dXOp_init_93 : decode cXOp_init 93 = .ok (.aload 5, 2) := by decide +kernel
theorem dXOp_init_95 : decode cXOp_init 95 = .ok (.iload 8, 2) := by decide +kernel
theorem dXOp_init_97 : decode cXOp_init 97 = .ok (.laload, 1) := by decide +kernel
theorem dXOp_init_98 : decode cXOp_init 98 = .ok (.invokestatic 30, 3) := by decide +kernel
theorem dXOp_init_101 : decode cXOp_init 101 = .ok (.lstore 6, 2) := by decide +kernel
theorem dXOp_init_103 : decode cXOp_init 103 = .ok (.iinc 8 1, 3) := by decide +kernel
theorem dXOp_init_106 : decode cXOp_init 106 = .ok (.goto (-23), 3) := by decide +kernel
theorem dXOp_init_109 : decode cXOp_init 109 = .ok (.aload_n 0, 1) := by decide +kernel
theorem dXOp_init_110 : decode cXOp_init 110 = .ok (.lload 6, 2) := by decide +kernel
theorem dXOp_init_112 : decode cXOp_init 112 = .ok (.putfield 34, 3) := by decide +kernel
theorem dXOp_init_115 : decode cXOp_init 115 = .ok (.return_, 1) := by decide +kernel
abbrev cXDr_finished : ByteArray := prog_3_method_4_code
def yXDr_finished : MethodName := ⟨RXDr, "finished", "()LHashLinkedWeb$Operation;"⟩
set_option maxRecDepth 100000 in
theorem qXDr_finished : Cond.code yXDr_finished cXDr_finished 1 (some (.object "HashLinkedWeb$Operation")) ∈ lg_tbl := fx_c 219 rfl
theorem hdXDr_finished : yXDr_finished.cls = RXDr ∧ yXDr_finished.cls ≠ "java/lang/invoke/MethodHandle" ∧ yXDr_finished.cls ≠ "java/lang/invoke/VarHandle" ∧ (parseMethodDescriptor yXDr_finished.desc).map (fun d => d.parameters.length) = some 0 := by decide +kernel
theorem dXDr_finished_0 : decode cXDr_finished 0 = .ok (.new 31, 3) := by decide +kernel
theorem dXDr_finished_3 : decode cXDr_finished 3 = .ok (.dup, 1) := by decide +kernel
theorem dXDr_finished_4 : decode cXDr_finished 4 = .ok (.aload_n 0, 1) := by decide +kernel
theorem dXDr_finished_5 : decode cXDr_finished 5 = .ok (.getfield 15, 3) := by decide +kernel
theorem dXDr_finished_8 : decode cXDr_finished 8 = .ok (.aload_n 0, 1) := by decide +kernel
theorem dXDr_finished_9 : decode cXDr_finished 9 = .ok (.getfield 19, 3) := by decide +kernel
theorem dXDr_finished_12 : decode cXDr_finished 12 = .ok (.aload_n 0, 1) := by decide +kernel
theorem dXDr_finished_13 : decode cXDr_finished 13 = .ok (.getfield 22, 3) := by decide +kernel
theorem dXDr_finished_16 : decode cXDr_finished 16 = .ok (.aload_n 0, 1) := by decide +kernel
theorem dXDr_finished_17 : decode cXDr_finished 17 = .ok (.getfield 25, 3) := by decide +kernel
theorem dXDr_finished_20 : decode cXDr_finished 20 = .ok (.aload_n 0, 1) := by decide +kernel
theorem dXDr_finished_21 : decode cXDr_finished 21 = .ok (.getfield 9, 3) := by decide +kernel
theorem dXDr_finished_24 : decode cXDr_finished 24 = .ok (.aload_n 0, 1) := by decide +kernel
theorem dXDr_finished_25 : decode cXDr_finished 25 = .ok (.getfield 28, 3) := by decide +kernel
theorem dXDr_finished_28 : decode cXDr_finished 28 = .ok (.invokestatic 33, 3) := by decide +kernel
theorem dXDr_finished_31 : decode cXDr_finished 31 = .ok (.invokespecial 39, 3) := by decide +kernel
theorem dXDr_finished_34 : decode cXDr_finished 34 = .ok (.areturn, 1) := by decide +kernel
abbrev cXKn_find : ByteArray := prog_4_method_4_code
def yXKn_find : MethodName := ⟨RXKn, "find", "(J)LHashLinkedWeb$Member;"⟩
set_option maxRecDepth 100000 in
theorem qXKn_find : Cond.code yXKn_find cXKn_find 4 (some (.object "HashLinkedWeb$Member")) ∈ lg_tbl := fx_c 291 rfl
theorem hdXKn_find : yXKn_find.cls = RXKn ∧ yXKn_find.cls ≠ "java/lang/invoke/MethodHandle" ∧ yXKn_find.cls ≠ "java/lang/invoke/VarHandle" ∧ (parseMethodDescriptor yXKn_find.desc).map (fun d => d.parameters.length) = some 1 := by decide +kernel
theorem dXKn_find_0 : decode cXKn_find 0 = .ok (.iconst 0, 1) := by decide +kernel
theorem dXKn_find_1 : decode cXKn_find 1 = .ok (.istore_n 3, 1) := by decide +kernel
theorem dXKn_find_2 : decode cXKn_find 2 = .ok (.iload_n 3, 1) := by decide +kernel
theorem dXKn_find_3 : decode cXKn_find 3 = .ok (.aload_n 0, 1) := by decide +kernel
theorem dXKn_find_4 : decode cXKn_find 4 = .ok (.getfield 12, 3) := by decide +kernel
theorem dXKn_find_7 : decode cXKn_find 7 = .ok (.getfield 18, 3) := by decide +kernel
theorem dXKn_find_10 : decode cXKn_find 10 = .ok (.if_icmp .ge 39, 3) := by decide +kernel
theorem dXKn_find_13 : decode cXKn_find 13 = .ok (.aload_n 0, 1) := by decide +kernel
theorem dXKn_find_14 : decode cXKn_find 14 = .ok (.getfield 12, 3) := by decide +kernel
theorem dXKn_find_17 : decode cXKn_find 17 = .ok (.getfield 26, 3) := by decide +kernel
theorem dXKn_find_20 : decode cXKn_find 20 = .ok (.iload_n 3, 1) := by decide +kernel
theorem dXKn_find_21 : decode cXKn_find 21 = .ok (.aaload, 1) := by decide +kernel
theorem dXKn_find_22 : decode cXKn_find 22 = .ok (.getfield 30, 3) := by decide +kernel
theorem dXKn_find_25 : decode cXKn_find 25 = .ok (.getfield 36, 3) := by decide +kernel
theorem dXKn_find_28 : decode cXKn_find 28 = .ok (.lload_n 1, 1) := by decide +kernel
theorem dXKn_find_29 : decode cXKn_find 29 = .ok (.lcmp, 1) := by decide +kernel
theorem dXKn_find_30 : decode cXKn_find 30 = .ok (.ifCond .ne 13, 3) := by decide +kernel
theorem dXKn_find_33 : decode cXKn_find 33 = .ok (.aload_n 0, 1) := by decide +kernel
theorem dXKn_find_34 : decode cXKn_find 34 = .ok (.getfield 12, 3) := by decide +kernel
theorem dXKn_find_37 : decode cXKn_find 37 = .ok (.getfield 26, 3) := by decide +kernel
theorem dXKn_find_40 : decode cXKn_find 40 = .ok (.iload_n 3, 1) := by decide +kernel
theorem dXKn_find_41 : decode cXKn_find 41 = .ok (.aaload, 1) := by decide +kernel
theorem dXKn_find_42 : decode cXKn_find 42 = .ok (.areturn, 1) := by decide +kernel
theorem dXKn_find_43 : decode cXKn_find 43 = .ok (.iinc 3 1, 3) := by decide +kernel
theorem dXKn_find_46 : decode cXKn_find 46 = .ok (.goto (-44), 3) := by decide +kernel
theorem dXKn_find_49 : decode cXKn_find 49 = .ok (.aconst_null, 1) := by decide +kernel
theorem dXKn_find_50 : decode cXKn_find 50 = .ok (.areturn, 1) := by decide +kernel
abbrev cXW_contains : ByteArray := prog_1_method_22_code
def yXW_contains : MethodName := ⟨RXW, "contains", "(JI)Z"⟩
set_option maxRecDepth 100000 in
theorem qXW_contains : Cond.code yXW_contains cXW_contains 3 (some .boolean) ∈ lg_tbl := fx_c 298 rfl
theorem hdXW_contains : yXW_contains.cls = RXW ∧ yXW_contains.cls ≠ "java/lang/invoke/MethodHandle" ∧ yXW_contains.cls ≠ "java/lang/invoke/VarHandle" ∧ (parseMethodDescriptor yXW_contains.desc).map (fun d => d.parameters.length) = some 2 := by decide +kernel
theorem dXW_contains_0 : decode cXW_contains 0 = .ok (.lload_n 0, 1) := by decide +kernel
theorem dXW_contains_1 : decode cXW_contains 1 = .ok (.iload_n 2, 1) := by decide +kernel
theorem dXW_contains_2 : decode cXW_contains 2 = .ok (.lushr, 1) := by decide +kernel
theorem dXW_contains_3 : decode cXW_contains 3 = .ok (.lconst 1, 1) := by decide +kernel
theorem dXW_contains_4 : decode cXW_contains 4 = .ok (.land, 1) := by decide +kernel
theorem dXW_contains_5 : decode cXW_contains 5 = .ok (.lconst 0, 1) := by decide +kernel
theorem dXW_contains_6 : decode cXW_contains 6 = .ok (.lcmp, 1) := by decide +kernel
theorem dXW_contains_7 : decode cXW_contains 7 = .ok (.ifCond .eq 7, 3) := by decide +kernel
theorem dXW_contains_10 : decode cXW_contains 10 = .ok (.iconst 1, 1) := by decide +kernel
theorem dXW_contains_11 : decode cXW_contains 11 = .ok (.goto 4, 3) := by decide +kernel
theorem dXW_contains_14 : decode cXW_contains 14 = .ok (.iconst 0, 1) := by decide +kernel
theorem dXW_contains_15 : decode cXW_contains 15 = .ok (.ireturn, 1) := by decide +kernel
