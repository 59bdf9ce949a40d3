noncomputable def wKXOp_init_83 (post : fh_T → Prop) (n : Nat) : fh_T → Nat → Nat → Int64 → Int32 → Prop := Nat.rec (motive := fun _ => fh_T → Nat → Nat → Int64 → Int32 → Prop) (fun _ _ _ _ _ => False) (fun _ K83 w v0 v5 v6 v8 => (∃ n29 z30, w v5 = some (.inl (2, n29, z30)) ∧ (((nI n29) ≤ v8 → (∃ fs33, w v0 = some (.inr (5, fs33)) ∧ 5 < fs33.length ∧ ∀ w34, w34 = fh_up w v0 (.inr (5, fs33.set 5 (.long v6))) → (post w34))) ∧ (¬ (nI n29) ≤ v8 → (∃ n37 f38, w v5 = some (.inl (2, n37, .inr (.inl f38))) ∧ vp_in v8 n37 ∧ (wKXOp_takeIn (fun r41 w_41 => (K83 w_41 v0 v5 r41 (v8 + 1))) w v6 (f38 (Int32.toNatClampNeg v8)))))))) n
def wKXOp_init (post : fh_T → Prop) (w : fh_T) (a0 : Nat) (a1 : Int32) (a2 : Int32) (a3 : Int32) (a4 : Int32) (a5 : Nat) : Prop := (∃ fs1, w a0 = some (.inr (5, fs1)) ∧ 0 < fs1.length ∧ ∀ w2, w2 = fh_up w a0 (.inr (5, fs1.set 0 (.int a1))) → (∃ fs5, w2 a0 = some (.inr (5, fs5)) ∧ 1 < fs5.length ∧ ∀ w6, w6 = fh_up w2 a0 (.inr (5, fs5.set 1 (.int a2))) → (∃ fs9, w6 a0 = some (.inr (5, fs9)) ∧ 2 < fs9.length ∧ ∀ w10, w10 = fh_up w6 a0 (.inr (5, fs9.set 2 (.int a3))) → (∃ fs13, w10 a0 = some (.inr (5, fs13)) ∧ 3 < fs13.length ∧ ∀ w14, w14 = fh_up w10 a0 (.inr (5, fs13.set 3 (.int a4))) → (∃ fs17, w14 a0 = some (.inr (5, fs17)) ∧ 4 < fs17.length ∧ ∀ w18, w18 = fh_up w14 a0 (.inr (5, fs17.set 4 (.ref a5))) → (wKXOp_takeIn (fun r21 w_21 => (wKXOp_takeIn (fun r22 w_22 => (wKXOp_takeIn (fun r23 w_23 => (wKXOp_takeIn (fun r24 w_24 => (∃ n25 z26, w_24 a5 = some (.inl (2, n25, z26)) ∧ (wKXOp_takeIn (fun r28 w_28 => (∃ k, wKXOp_init_83 post  k w_28 a0 a5 r28 0)) w_24 r24 (Int32.toInt64 (nI n25))))) w_23 r23 (Int32.toInt64 a4))) w_22 r22 (Int32.toInt64 a3))) w_21 r21 (Int32.toInt64 a2))) w18 6148914691236517205 (Int32.toInt64 a1)))))))
set_option maxRecDepth 100000 in
set_option maxHeartbeats 4000000 in
theorem sKXOp_init_83 {p : Program} {l : Launch} {e : Env} {s : State} {m : MethodId} {args : Array Value} {below : List Frame} {meth : Method} {c : Code} {D : va_G} {ca : Nat → Nat} {A : Nat → Prop} {post : fh_T → Prop} (C0 : kCx p s m args meth c D ca A RXOp cXOp_init 9 none "<init>") : ∀ (n : Nat) (w : fh_T) (v0 : Nat) (v5 : Nat) (v6 : Int64) (v8 : Int32), wKXOp_init_83 post  n w v0 v5 v6 v8 → ∀ (H : Heap) (locs : List Loc) (ls : Array Slot), fh_ok D ca A w H → va_S A s.heap H locs → lv_has ls 9 [(0, .ref v0), (5, .ref v5), (6, .long v6), (8, .int v8)] → W p l e ({ frames := 1, cells := 0, slots := 0, locals := 40 } : Room) s m args below meth c H locs 0 0 (MQ below (va_Qv post (fxC (fh_ok D ca A)) A) args s 0 0 A) (F0 m 83 ls []) := by
  obtain ⟨hx, hb, hr, hml, hown, hts, hlocks, hK, hN, hE, hA, hin⟩ := id C0
  intro n
  induction n with
  | zero => exact fun _ _ _ _ _ h => h.elim
  | succ n hK83 =>
    intro w v0 v5 v6 v8 h H locs ls hP hS hl
    replace h : (∃ n29 z30, w v5 = some (.inl (2, n29, z30)) ∧ (((nI n29) ≤ v8 → (∃ fs33, w v0 = some (.inr (5, fs33)) ∧ 5 < fs33.length ∧ ∀ w34, w34 = fh_up w v0 (.inr (5, fs33.set 5 (.long v6))) → (post w34))) ∧ (¬ (nI n29) ≤ v8 → (∃ n37 f38, w v5 = some (.inl (2, n37, .inr (.inl f38))) ∧ vp_in v8 n37 ∧ (wKXOp_takeIn (fun r41 w_41 => ((wKXOp_init_83 post  n) w_41 v0 v5 r41 (v8 + 1))) w v6 (f38 (Int32.toNatClampNeg v8))))))) := h
    refine lv_iload hx hb dXOp_init_83 (lv_at hl 3 rfl) ?_
    refine lv_aload hx hb dXOp_init_85 (lv_at hl 1 rfl) ?_
    obtain ⟨n29, z30, g31, h⟩ := h
    refine kal 2 rfl rfl hx hb hK hP g31 dXOp_init_87 ?_
    refine lv_icmp_ge (tgt := 109) hx hb dXOp_init_88 (by decide) (fun c32 => ?_) (fun c32 => ?_)
    · replace h := h.1 c32
      refine lv_aload_n hx hb dXOp_init_109 rfl (lv_at hl 0 rfl) ?_
      refine lv_lload hx hb dXOp_init_110 (lv_at hl 2 rfl) ?_
      obtain ⟨fs33, g35, g36, h⟩ := h
      obtain ⟨w34, ew34⟩ : ∃ y, y = fh_up w v0 (.inr (5, fs33.set 5 (.long v6))) := ⟨_, rfl⟩
      replace h := h w34 ew34
      refine kf_XOp_34 hin hx hb hown hts hN hK hP hS g35 g36 dXOp_init_112 (fun H locs hP hS => ?_)
      rw [← ew34] at hP
      exact W.vret hx hb hr (fun t ht hW => ⟨⟨_, rfl, h, by rw [fxC, ht]; exact hP⟩, hS.F ht⟩) hS.2.2 dXOp_init_115 hlocks
    · replace h := h.2 c32
      refine lv_lload hx hb dXOp_init_91 (lv_at hl 2 rfl) ?_
      refine lv_aload hx hb dXOp_init_93 (lv_at hl 1 rfl) ?_
      refine lv_iload hx hb dXOp_init_95 (lv_at hl 3 rfl) ?_
      obtain ⟨n37, f38, g39, g40, h⟩ := h
      refine kla hx hb hK hP g39 g40 dXOp_init_97 ?_
      refine va_calll (va_runS (As := [.long v6, .long (f38 (Int32.toNatClampNeg v8))]) (rest := []) ⟨hx, hb, hml, hown, hts⟩ (cKXOp_takeIn h) (gc_XOp_30 hts hN ⟨Nat.le_of_ble_eq_true rfl, Nat.le_of_ble_eq_true rfl⟩) (k_preS hP hS hA hK hN hE) rfl rfl hl.1 rfl (lv_room (Nat.le_of_ble_eq_true rfl)) dXOp_init_98 ⟨Nat.le_of_ble_eq_true rfl, Nat.le_of_ble_eq_true rfl⟩) hS (fun _ _ q => q) (fun _ q => q) (fun r41 w_41 t H locs ht hvm h hP hz hk hS => ?_)
      rw [fxC, ht] at hP
      refine lv_lstore (lv' := [(6, .long r41), (0, .ref v0), (5, .ref v5), (8, .int v8)]) hx hb dXOp_init_101 hl (by decide) rfl (fun ls hl => ?_)
      refine lv_iinc (v := v8 + 1) (lv' := [(8, .int (v8 + 1)), (6, .long r41), (0, .ref v0), (5, .ref v5)]) hx hb dXOp_init_103 hl (k := 3) rfl rfl (by decide) rfl (fun ls hl => ?_)
      refine lv_goto (tgt := 83) hx hb dXOp_init_106 (by decide) ?_
      exact hK83 w_41 v0 v5 r41 (v8 + 1) h H locs ls hP hS (lv_sub hl [2, 3, 1, 0] rfl)
set_option maxRecDepth 100000 in
set_option maxHeartbeats 4000000 in
theorem sKXOp_init_in {p : Program} {l : Launch} {e : Env} {s : State} {m : MethodId} {args : Array Value} {below : List Frame} {meth : Method} {c : Code} {D : va_G} {ca : Nat → Nat} {A : Nat → Prop} {post : fh_T → Prop} (C0 : kCx p s m args meth c D ca A RXOp cXOp_init 9 none "<init>") : ∀ (w : fh_T) (a0 : Nat) (a1 : Int32) (a2 : Int32) (a3 : Int32) (a4 : Int32) (a5 : Nat), wKXOp_init post w a0 a1 a2 a3 a4 a5 → ∀ (H : Heap) (locs : List Loc) (ls : Array Slot), fh_ok D ca A w H → va_S A s.heap H locs → lv_has ls 9 [(0, .ref a0), (1, .int a1), (2, .int a2), (3, .int a3), (4, .int a4), (5, .ref a5)] → W p l e ({ frames := 1, cells := 0, slots := 0, locals := 40 } : Room) s m args below meth c H locs 0 0 (MQ below (va_Qv post (fxC (fh_ok D ca A)) A) args s 0 0 A) (F0 m 0 ls []) := by
  obtain ⟨hx, hb, hr, hml, hown, hts, hlocks, hK, hN, hE, hA, hin⟩ := id C0
  intro w a0 a1 a2 a3 a4 a5 h H locs ls hP hS hl
  replace h : (∃ fs1, w a0 = some (.inr (5, fs1)) ∧ 0 < fs1.length ∧ ∀ w2, w2 = fh_up w a0 (.inr (5, fs1.set 0 (.int a1))) → (∃ fs5, w2 a0 = some (.inr (5, fs5)) ∧ 1 < fs5.length ∧ ∀ w6, w6 = fh_up w2 a0 (.inr (5, fs5.set 1 (.int a2))) → (∃ fs9, w6 a0 = some (.inr (5, fs9)) ∧ 2 < fs9.length ∧ ∀ w10, w10 = fh_up w6 a0 (.inr (5, fs9.set 2 (.int a3))) → (∃ fs13, w10 a0 = some (.inr (5, fs13)) ∧ 3 < fs13.length ∧ ∀ w14, w14 = fh_up w10 a0 (.inr (5, fs13.set 3 (.int a4))) → (∃ fs17, w14 a0 = some (.inr (5, fs17)) ∧ 4 < fs17.length ∧ ∀ w18, w18 = fh_up w14 a0 (.inr (5, fs17.set 4 (.ref a5))) → (wKXOp_takeIn (fun r21 w_21 => (wKXOp_takeIn (fun r22 w_22 => (wKXOp_takeIn (fun r23 w_23 => (wKXOp_takeIn (fun r24 w_24 => (∃ n25 z26, w_24 a5 = some (.inl (2, n25, z26)) ∧ (wKXOp_takeIn (fun r28 w_28 => (∃ k, wKXOp_init_83 post  k w_28 a0 a5 r28 0)) w_24 r24 (Int32.toInt64 (nI n25))))) w_23 r23 (Int32.toInt64 a4))) w_22 r22 (Int32.toInt64 a3))) w_21 r21 (Int32.toInt64 a2))) w18 6148914691236517205 (Int32.toInt64 a1))))))) := h
  refine lv_aload_n hx hb dXOp_init_0 rfl (lv_at hl 0 rfl) ?_
  refine W.objInit hx hb hown (hts (.methodLink RXOp 3 objectInit) (fx_m (by decide +kernel))) (hts (.instanceMethod objectInit) (fx_m (by decide +kernel))) (hts _ fx_objc) rfl (by rw [hml]; exact hl.1) rfl dXOp_init_1 (Nat.le_of_ble_eq_true rfl) (Nat.le_of_ble_eq_true rfl) ?_
  refine lv_aload_n hx hb dXOp_init_4 rfl (lv_at hl 0 rfl) ?_
  refine lv_iload_n hx hb dXOp_init_5 rfl (lv_at hl 1 rfl) ?_
  obtain ⟨fs1, g3, g4, h⟩ := h
  obtain ⟨w2, ew2⟩ : ∃ y, y = fh_up w a0 (.inr (5, fs1.set 0 (.int a1))) := ⟨_, rfl⟩
  replace h := h w2 ew2
  refine kf_XOp_9 hin hx hb hown hts hN hK hP hS g3 g4 dXOp_init_6 (fun H locs hP hS => ?_)
  rw [← ew2] at hP
  refine lv_aload_n hx hb dXOp_init_9 rfl (lv_at hl 0 rfl) ?_
  refine lv_iload_n hx hb dXOp_init_10 rfl (lv_at hl 2 rfl) ?_
  obtain ⟨fs5, g7, g8, h⟩ := h
  obtain ⟨w6, ew6⟩ : ∃ y, y = fh_up w2 a0 (.inr (5, fs5.set 1 (.int a2))) := ⟨_, rfl⟩
  replace h := h w6 ew6
  refine kf_XOp_15 hin hx hb hown hts hN hK hP hS g7 g8 dXOp_init_11 (fun H locs hP hS => ?_)
  rw [← ew6] at hP
  refine lv_aload_n hx hb dXOp_init_14 rfl (lv_at hl 0 rfl) ?_
  refine lv_iload_n hx hb dXOp_init_15 rfl (lv_at hl 3 rfl) ?_
  obtain ⟨fs9, g11, g12, h⟩ := h
  obtain ⟨w10, ew10⟩ : ∃ y, y = fh_up w6 a0 (.inr (5, fs9.set 2 (.int a3))) := ⟨_, rfl⟩
  replace h := h w10 ew10
  refine kf_XOp_18 hin hx hb hown hts hN hK hP hS g11 g12 dXOp_init_16 (fun H locs hP hS => ?_)
  rw [← ew10] at hP
  refine lv_aload_n hx hb dXOp_init_19 rfl (lv_at hl 0 rfl) ?_
  refine lv_iload hx hb dXOp_init_20 (lv_at hl 4 rfl) ?_
  obtain ⟨fs13, g15, g16, h⟩ := h
  obtain ⟨w14, ew14⟩ : ∃ y, y = fh_up w10 a0 (.inr (5, fs13.set 3 (.int a4))) := ⟨_, rfl⟩
  replace h := h w14 ew14
  refine kf_XOp_21 hin hx hb hown hts hN hK hP hS g15 g16 dXOp_init_22 (fun H locs hP hS => ?_)
  rw [← ew14] at hP
  refine lv_aload_n hx hb dXOp_init_25 rfl (lv_at hl 0 rfl) ?_
  refine lv_aload hx hb dXOp_init_26 (lv_at hl 5 rfl) ?_
  obtain ⟨fs17, g19, g20, h⟩ := h
  obtain ⟨w18, ew18⟩ : ∃ y, y = fh_up w14 a0 (.inr (5, fs17.set 4 (.ref a5))) := ⟨_, rfl⟩
  replace h := h w18 ew18
  refine kf_XOp_24 hin hx hb hown hts hN hK hP hS g19 g20 dXOp_init_28 (fun H locs hP hS => ?_)
  rw [← ew18] at hP
  refine lv_ldc2 (v := 6148914691236517205) hx hb hown (hts (.constantLong RXOp 28 6148914691236517205) (fx_m (by decide +kernel))) dXOp_init_31 ?_
  refine lv_iload_n hx hb dXOp_init_34 rfl (lv_at hl 1 rfl) ?_
  refine lv_i2l (v := Int32.toInt64 a1) hx hb dXOp_init_35 rfl ?_
  refine va_calll (va_runS (As := [.long 6148914691236517205, .long (Int32.toInt64 a1)]) (rest := []) ⟨hx, hb, hml, hown, hts⟩ (cKXOp_takeIn h) (gc_XOp_30 hts hN ⟨Nat.le_of_ble_eq_true rfl, Nat.le_of_ble_eq_true rfl⟩) (k_preS hP hS hA hK hN hE) rfl rfl hl.1 rfl (lv_room (Nat.le_of_ble_eq_true rfl)) dXOp_init_36 ⟨Nat.le_of_ble_eq_true rfl, Nat.le_of_ble_eq_true rfl⟩) hS (fun _ _ q => q) (fun _ q => q) (fun r21 w_21 t H locs ht hvm h hP hz hk hS => ?_)
  rw [fxC, ht] at hP
  refine lv_lstore (lv' := [(6, .long r21), (0, .ref a0), (1, .int a1), (2, .int a2), (3, .int a3), (4, .int a4), (5, .ref a5)]) hx hb dXOp_init_39 hl (by decide) rfl (fun ls hl => ?_)
  refine lv_lload hx hb dXOp_init_41 (lv_at hl 0 rfl) ?_
  refine lv_iload_n hx hb dXOp_init_43 rfl (lv_at hl 3 rfl) ?_
  refine lv_i2l (v := Int32.toInt64 a2) hx hb dXOp_init_44 rfl ?_
  refine va_calll (va_runS (As := [.long r21, .long (Int32.toInt64 a2)]) (rest := []) ⟨hx, hb, hml, hown, hts⟩ (cKXOp_takeIn h) (gc_XOp_30 hts hN ⟨Nat.le_of_ble_eq_true rfl, Nat.le_of_ble_eq_true rfl⟩) (k_preS hP hS hA hK hN hE) rfl rfl hl.1 rfl (lv_room (Nat.le_of_ble_eq_true rfl)) dXOp_init_45 ⟨Nat.le_of_ble_eq_true rfl, Nat.le_of_ble_eq_true rfl⟩) hS (fun _ _ q => q) (fun _ q => q) (fun r22 w_22 t H locs ht hvm h hP hz hk hS => ?_)
  rw [fxC, ht] at hP
  refine lv_lstore (lv' := [(6, .long r22), (0, .ref a0), (1, .int a1), (2, .int a2), (3, .int a3), (4, .int a4), (5, .ref a5)]) hx hb dXOp_init_48 hl (by decide) rfl (fun ls hl => ?_)
  refine lv_lload hx hb dXOp_init_50 (lv_at hl 0 rfl) ?_
  refine lv_iload_n hx hb dXOp_init_52 rfl (lv_at hl 4 rfl) ?_
  refine lv_i2l (v := Int32.toInt64 a3) hx hb dXOp_init_53 rfl ?_
  refine va_calll (va_runS (As := [.long r22, .long (Int32.toInt64 a3)]) (rest := []) ⟨hx, hb, hml, hown, hts⟩ (cKXOp_takeIn h) (gc_XOp_30 hts hN ⟨Nat.le_of_ble_eq_true rfl, Nat.le_of_ble_eq_true rfl⟩) (k_preS hP hS hA hK hN hE) rfl rfl hl.1 rfl (lv_room (Nat.le_of_ble_eq_true rfl)) dXOp_init_54 ⟨Nat.le_of_ble_eq_true rfl, Nat.le_of_ble_eq_true rfl⟩) hS (fun _ _ q => q) (fun _ q => q) (fun r23 w_23 t H locs ht hvm h hP hz hk hS => ?_)
  rw [fxC, ht] at hP
  refine lv_lstore (lv' := [(6, .long r23), (0, .ref a0), (1, .int a1), (2, .int a2), (3, .int a3), (4, .int a4), (5, .ref a5)]) hx hb dXOp_init_57 hl (by decide) rfl (fun ls hl => ?_)
  refine lv_lload hx hb dXOp_init_59 (lv_at hl 0 rfl) ?_
  refine lv_iload hx hb dXOp_init_61 (lv_at hl 5 rfl) ?_
  refine lv_i2l (v := Int32.toInt64 a4) hx hb dXOp_init_63 rfl ?_
  refine va_calll (va_runS (As := [.long r23, .long (Int32.toInt64 a4)]) (rest := []) ⟨hx, hb, hml, hown, hts⟩ (cKXOp_takeIn h) (gc_XOp_30 hts hN ⟨Nat.le_of_ble_eq_true rfl, Nat.le_of_ble_eq_true rfl⟩) (k_preS hP hS hA hK hN hE) rfl rfl hl.1 rfl (lv_room (Nat.le_of_ble_eq_true rfl)) dXOp_init_64 ⟨Nat.le_of_ble_eq_true rfl, Nat.le_of_ble_eq_true rfl⟩) hS (fun _ _ q => q) (fun _ q => q) (fun r24 w_24 t H locs ht hvm h hP hz hk hS => ?_)
  rw [fxC, ht] at hP
  refine lv_lstore (lv' := [(6, .long r24), (0, .ref a0), (1, .int a1), (2, .int a2), (3, .int a3), (4, .int a4), (5, .ref a5)]) hx hb dXOp_init_67 hl (by decide) rfl (fun ls hl => ?_)
  refine lv_lload hx hb dXOp_init_69 (lv_at hl 0 rfl) ?_
  refine lv_aload hx hb dXOp_init_71 (lv_at hl 6 rfl) ?_
  obtain ⟨n25, z26, g27, h⟩ := h
  refine kal 2 rfl rfl hx hb hK hP g27 dXOp_init_73 ?_
  refine lv_i2l (v := Int32.toInt64 (nI n25)) hx hb dXOp_init_74 rfl ?_
  refine va_calll (va_runS (As := [.long r24, .long (Int32.toInt64 (nI n25))]) (rest := []) ⟨hx, hb, hml, hown, hts⟩ (cKXOp_takeIn h) (gc_XOp_30 hts hN ⟨Nat.le_of_ble_eq_true rfl, Nat.le_of_ble_eq_true rfl⟩) (k_preS hP hS hA hK hN hE) rfl rfl hl.1 rfl (lv_room (Nat.le_of_ble_eq_true rfl)) dXOp_init_75 ⟨Nat.le_of_ble_eq_true rfl, Nat.le_of_ble_eq_true rfl⟩) hS (fun _ _ q => q) (fun _ q => q) (fun r28 w_28 t H locs ht hvm h hP hz hk hS => ?_)
  rw [fxC, ht] at hP
  refine lv_lstore (lv' := [(6, .long r28), (0, .ref a0), (1, .int a1), (2, .int a2), (3, .int a3), (4, .int a4), (5, .ref a5)]) hx hb dXOp_init_78 hl (by decide) rfl (fun ls hl => ?_)
  refine lv_iconst (v := 0) hx hb dXOp_init_80 (by decide) ?_
  refine lv_istore (lv' := [(8, .int 0), (6, .long r28), (0, .ref a0), (1, .int a1), (2, .int a2), (3, .int a3), (4, .int a4), (5, .ref a5)]) hx hb dXOp_init_81 hl (by decide) rfl (fun ls hl => ?_)
  obtain ⟨k, h⟩ := h
  exact sKXOp_init_83  C0  k w_28 a0 a5 r28 0 h H locs ls hP hS (lv_sub hl [2, 7, 1, 0] rfl)
set_option maxRecDepth 100000 in
set_option maxHeartbeats 4000000 in
theorem cKXOp_init {l : Launch} {D : va_G} {ca : Nat → Nat} {A : Nat → Prop} {post : fh_T → Prop} {w : fh_T} {a0 : Nat} {a1 : Int32} {a2 : Int32} {a3 : Int32} {a4 : Int32} {a5 : Nat} (h : wKXOp_init post w a0 a1 a2 a3 a4 a5) : Met l yXOp_init (.code yXOp_init cXOp_init 9 none :: lg_tbl) ({ frames := 1, cells := 0, slots := 0, locals := 40 } : Room) (va_Pc [.ref a0, .int a1, .int a2, .int a3, .int a4, .ref a5] (kB D ca A w)) (va_Qv post (fxC (fh_ok D ca A)) A) 0 0 A := by
  refine fx_start (by decide +kernel) (Nat.le_of_ble_eq_true rfl) ?_
  intro p e s m below meth c ls hx hb hr hml hown hts hlocks hnm hB hl
  exact sKXOp_init_in ⟨hx, hb, hr, hml, hown, hts, hlocks, hB.2.2.1, hB.2.2.2.1, hB.2.2.2.2, hB.2.1, hnm⟩ w a0 a1 a2 a3 a4 a5 h _ _ ls hB.1 va_S.rf hl
def wKXDr_finished (post : Option Nat → fh_T → Prop) (w : fh_T) (mc : Nat) (ms : Nat) (a0 : Nat) : Prop := (∃ mc3 ms4, mc = mc3 + 1 ∧ ms = ms4 + 6 ∧ ∀ q1, w q1 = none → ∀ w2, w2 = fh_up w q1 (.inr (5, [.int 0, .int 0, .int 0, .int 0, .null, .long 0])) → (∃ x5, fh_g w2 a0 6 0 (.int x5) ∧ (∃ x7, fh_g w2 a0 6 1 (.int x7) ∧ (∃ x9, fh_g w2 a0 6 2 (.int x9) ∧ (∃ x11, fh_g w2 a0 6 3 (.int x11) ∧ (∃ x13, fh_g w2 a0 6 5 (.ref x13) ∧ (∃ x15, fh_g w2 a0 6 4 (.int x15) ∧ (∃ a18 b19 mc20 ms21, mc3 = mc20 + a18 ∧ ms4 = ms21 + b19 ∧ (wKXAr_copyOf (fun r17 w_17 => (∃ y22, r17 = some y22 ∧ (wKXOp_init (fun w_24 => (post (some q1) w_24)) w_17 q1 x5 x7 x9 x11 y22))) w2 a18 b19 x13 x15)))))))))
set_option maxRecDepth 100000 in
set_option maxHeartbeats 4000000 in
theorem sKXDr_finished_in {p : Program} {l : Launch} {e : Env} {s : State} {m : MethodId} {args : Array Value} {below : List Frame} {meth : Method} {c : Code} {D : va_G} {ca : Nat → Nat} {A : Nat → Prop} {MC MS : Nat} {post : Option Nat → fh_T → Prop} (C0 : kCx p s m args meth c D ca A RXDr cXDr_finished 1 (some (.object "HashLinkedWeb$Operation")) "finished") : ∀ (w : fh_T) (mc : Nat) (ms : Nat) (a0 : Nat), wKXDr_finished post w mc ms a0 → ∀ (H : Heap) (locs : List Loc) (ls : Array Slot), fh_ok D ca A w H → va_S A s.heap H locs → lv_has ls 1 [(0, .ref a0)] → ∀ cells slots : Nat, cells + mc = MC → slots + ms = MS → W p l e ({ frames := 2, cells := MC, slots := MS, locals := 68 } : Room) s m args below meth c H locs cells slots (MQ below (va_Qe (fun x => x) post (fxC (fh_ok D ca A)) A) args s MC MS A) (F0 m 0 ls []) := by
  obtain ⟨hx, hb, hr, hml, hown, hts, hlocks, hK, hN, hE, hA, hin⟩ := id C0
  intro w mc ms a0 h H locs ls hP hS hl cells slots hbc hbs
  replace h : (∃ mc3 ms4, mc = mc3 + 1 ∧ ms = ms4 + 6 ∧ ∀ q1, w q1 = none → ∀ w2, w2 = fh_up w q1 (.inr (5, [.int 0, .int 0, .int 0, .int 0, .null, .long 0])) → (∃ x5, fh_g w2 a0 6 0 (.int x5) ∧ (∃ x7, fh_g w2 a0 6 1 (.int x7) ∧ (∃ x9, fh_g w2 a0 6 2 (.int x9) ∧ (∃ x11, fh_g w2 a0 6 3 (.int x11) ∧ (∃ x13, fh_g w2 a0 6 5 (.ref x13) ∧ (∃ x15, fh_g w2 a0 6 4 (.int x15) ∧ (∃ a18 b19 mc20 ms21, mc3 = mc20 + a18 ∧ ms4 = ms21 + b19 ∧ (wKXAr_copyOf (fun r17 w_17 => (∃ y22, r17 = some y22 ∧ (wKXOp_init (fun w_24 => (post (some q1) w_24)) w_17 q1 x5 x7 x9 x11 y22))) w2 a18 b19 x13 x15))))))))) := h
  obtain ⟨mc3, ms4, hm1, hm2, h⟩ := h
  refine ko_XDr_31 hx hb hown hts hK hE hP hS hA (show cells + 1 ≤ MC by omega) (show slots + 6 ≤ MS by omega) dXDr_finished_0 (fun q1 H hq hP hS => ?_)
  obtain ⟨w2, ew2⟩ : ∃ y, y = fh_up w q1 (.inr (5, [.int 0, .int 0, .int 0, .int 0, .null, .long 0])) := ⟨_, rfl⟩
  replace h := h q1 hq w2 ew2
  rw [← ew2] at hP
  replace hbc : cells + 1 + mc3 = MC := by omega
  replace hbs : slots + 6 + ms4 = MS := by omega
  refine lv_dup hx hb dXDr_finished_3 rfl ?_
  refine lv_aload_n hx hb dXDr_finished_4 rfl (lv_at hl 0 rfl) ?_
  obtain ⟨x5, g6, h⟩ := h
  refine kg_XDr_15 hx hb hown hts hN hK hP g6 dXDr_finished_5 ?_
  refine lv_aload_n hx hb dXDr_finished_8 rfl (lv_at hl 0 rfl) ?_
  obtain ⟨x7, g8, h⟩ := h
  refine kg_XDr_19 hx hb hown hts hN hK hP g8 dXDr_finished_9 ?_
  refine lv_aload_n hx hb dXDr_finished_12 rfl (lv_at hl 0 rfl) ?_
  obtain ⟨x9, g10, h⟩ := h
  refine kg_XDr_22 hx hb hown hts hN hK hP g10 dXDr_finished_13 ?_
  refine lv_aload_n hx hb dXDr_finished_16 rfl (lv_at hl 0 rfl) ?_
  obtain ⟨x11, g12, h⟩ := h
  refine kg_XDr_25 hx hb hown hts hN hK hP g12 dXDr_finished_17 ?_
  refine lv_aload_n hx hb dXDr_finished_20 rfl (lv_at hl 0 rfl) ?_
  obtain ⟨x13, g14, h⟩ := h
  refine kg_XDr_9 hx hb hown hts hN hK hP g14 dXDr_finished_21 ?_
  refine lv_aload_n hx hb dXDr_finished_24 rfl (lv_at hl 0 rfl) ?_
  obtain ⟨x15, g16, h⟩ := h
  refine kg_XDr_28 hx hb hown hts hN hK hP g16 dXDr_finished_25 ?_
  obtain ⟨a18, b19, mc20, ms21, hm1, hm2, h⟩ := h
  refine va_calle (va_runS (As := [.ref x13, .int x15]) (rest := [.int x11, .int x9, .int x7, .int x5, .ref q1, .ref q1]) ⟨hx, hb, hml, hown, hts⟩ (cKXAr_copyOf h) (gc_XDr_33 hts hN ⟨Nat.le_of_ble_eq_true rfl, Nat.le_of_ble_eq_true rfl⟩) (k_preS hP hS hA hK hN hE) rfl rfl hl.1 rfl (lv_room (Nat.le_of_ble_eq_true rfl)) dXDr_finished_28 ⟨show cells + 1 + a18 ≤ MC by omega, show slots + 6 + b19 ≤ MS by omega⟩) hS (fun _ _ q => q) (fun _ q => q) (fun r17 w_17 t H locs ht hvm h hP hz hk hS => ?_)
  rw [fxC, ht] at hP
  refine W.cs (cells' := cells + 1 + a18) (slots' := slots + 6 + b19) rfl rfl ?_
  replace hbc : cells + 1 + a18 + mc20 = MC := by omega
  replace hbs : slots + 6 + b19 + ms21 = MS := by omega
  obtain ⟨y22, e23, h⟩ := h
  subst e23
  refine va_callv (va_runI (As := [.int x5, .int x7, .int x9, .int x11, .ref y22]) (rest := [.ref q1]) ⟨hx, hb, hml, hown, hts⟩ (cKXOp_init h) (gc_XDr_39 hts hN ⟨Nat.le_of_ble_eq_true rfl, Nat.le_of_ble_eq_true rfl⟩) (k_preS hP hS hA hK hN hE) rfl rfl hl.1 rfl (lv_room (Nat.le_of_ble_eq_true rfl)) dXDr_finished_31 ⟨show cells + 1 + a18 + 0 ≤ MC by omega, show slots + 6 + b19 + 0 ≤ MS by omega⟩) hS (fun _ _ q => q) (fun _ q => q) (fun w_24 t H locs ht hvm h hP hz hk hS => ?_)
  rw [fxC, ht] at hP
  refine W.cs (cells' := cells + 1 + a18) (slots' := slots + 6 + b19) rfl rfl ?_
  refine W.widen (k := MC) (n := MS) (by omega) (by omega) ?_
  exact W.aret hx hb hr (Or.inl ⟨_, rfl⟩) (Or.inr ⟨_, rfl⟩) (fun t ht hW => ⟨⟨(some q1), _, rfl, h, by rw [fxC, ht]; exact hP⟩, hS.F ht⟩) hS.2.2 dXDr_finished_34 hlocks
set_option maxRecDepth 100000 in
set_option maxHeartbeats 4000000 in
theorem cKXDr_finished {l : Launch} {D : va_G} {ca : Nat → Nat} {A : Nat → Prop} {post : Option Nat → fh_T → Prop} {w : fh_T} {mc : Nat} {ms : Nat} {a0 : Nat} (h : wKXDr_finished post w mc ms a0) : Met l yXDr_finished (.code yXDr_finished cXDr_finished 1 (some (.object "HashLinkedWeb$Operation")) :: lg_tbl) ({ frames := 2, cells := mc, slots := ms, locals := 68 } : Room) (va_Pc [.ref a0] (kB D ca A w)) (va_Qe (fun x => x) post (fxC (fh_ok D ca A)) A) mc ms A := by
  refine fx_start (by decide +kernel) (Nat.le_of_ble_eq_true rfl) ?_
  intro p e s m below meth c ls hx hb hr hml hown hts hlocks hnm hB hl
  exact sKXDr_finished_in ⟨hx, hb, hr, hml, hown, hts, hlocks, hB.2.2.1, hB.2.2.2.1, hB.2.2.2.2, hB.2.1, hnm⟩ w mc ms a0 h _ _ ls hB.1 va_S.rf hl 0 0 (Nat.zero_add _) (Nat.zero_add _)
noncomputable def wKXKn_find_2 (post : Option Nat → fh_T → Prop) (n : Nat) : fh_T → Nat → Int64 → Int32 → Prop := Nat.rec (motive := fun _ => fh_T → Nat → Int64 → Int32 → Prop) (fun _ _ _ _ => False) (fun _ K2 w v0 v1 v3 => (∃ x1, fh_g w v0 2 0 (.ref x1) ∧ (∃ x3, fh_g w x1 3 1 (.int x3) ∧ ((x3 ≤ v3 → (post none w)) ∧ (¬ x3 ≤ v3 → (∃ x6, fh_g w v0 2 0 (.ref x6) ∧ (∃ x8, fh_g w x6 3 0 (.ref x8) ∧ (∃ n10 f11 y12, w x8 = some (.inl (0, n10, .inr (.inr (.inr (.inr f11))))) ∧ vp_in v3 n10 ∧ f11 (Int32.toNatClampNeg v3) = some y12 ∧ (∃ x16, fh_g w y12 7 0 (.ref x16) ∧ (∃ x18, fh_g w x16 5 5 (.long x18) ∧ ((¬ (lg_cmp x18 v1) = 0 → (K2 w v0 v1 (v3 + 1))) ∧ ((lg_cmp x18 v1) = 0 → (∃ x21, fh_g w v0 2 0 (.ref x21) ∧ (∃ x23, fh_g w x21 3 0 (.ref x23) ∧ (∃ n25 f26 y27, w x23 = some (.inl (0, n25, .inr (.inr (.inr (.inr f26))))) ∧ vp_in v3 n25 ∧ f26 (Int32.toNatClampNeg v3) = some y27 ∧ (post (some y27) w)))))))))))))))) n
def wKXKn_find (post : Option Nat → fh_T → Prop) (w : fh_T) (a0 : Nat) (a1 : Int64) : Prop := (∃ k, wKXKn_find_2 post  k w a0 a1 0)
set_option maxRecDepth 100000 in
set_option maxHeartbeats 4000000 in
theorem sKXKn_find_2 {p : Program} {l : Launch} {e : Env} {s : State} {m : MethodId} {args : Array Value} {below : List Frame} {meth : Method} {c : Code} {D : va_G} {ca : Nat → Nat} {A : Nat → Prop} {post : Option Nat → fh_T → Prop} (C0 : kCx p s m args meth c D ca A RXKn cXKn_find 4 (some (.object "HashLinkedWeb$Member")) "find") : ∀ (n : Nat) (w : fh_T) (v0 : Nat) (v1 : Int64) (v3 : Int32), wKXKn_find_2 post  n w v0 v1 v3 → ∀ (H : Heap) (locs : List Loc) (ls : Array Slot), fh_ok D ca A w H → va_S A s.heap H locs → lv_has ls 4 [(0, .ref v0), (1, .long v1), (3, .int v3)] → W p l e ({ frames := 0, cells := 0, slots := 0, locals := 0 } : Room) s m args below meth c H locs 0 0 (MQ below (va_Qe (fun x => x) post (fxC (fh_ok D ca A)) A) args s 0 0 A) (F0 m 2 ls []) := by
  obtain ⟨hx, hb, hr, hml, hown, hts, hlocks, hK, hN, hE, hA, hin⟩ := id C0
  intro n
  induction n with
  | zero => exact fun _ _ _ _ h => h.elim
  | succ n hK2 =>
    intro w v0 v1 v3 h H locs ls hP hS hl
    replace h : (∃ x1, fh_g w v0 2 0 (.ref x1) ∧ (∃ x3, fh_g w x1 3 1 (.int x3) ∧ ((x3 ≤ v3 → (post none w)) ∧ (¬ x3 ≤ v3 → (∃ x6, fh_g w v0 2 0 (.ref x6) ∧ (∃ x8, fh_g w x6 3 0 (.ref x8) ∧ (∃ n10 f11 y12, w x8 = some (.inl (0, n10, .inr (.inr (.inr (.inr f11))))) ∧ vp_in v3 n10 ∧ f11 (Int32.toNatClampNeg v3) = some y12 ∧ (∃ x16, fh_g w y12 7 0 (.ref x16) ∧ (∃ x18, fh_g w x16 5 5 (.long x18) ∧ ((¬ (lg_cmp x18 v1) = 0 → ((wKXKn_find_2 post  n) w v0 v1 (v3 + 1))) ∧ ((lg_cmp x18 v1) = 0 → (∃ x21, fh_g w v0 2 0 (.ref x21) ∧ (∃ x23, fh_g w x21 3 0 (.ref x23) ∧ (∃ n25 f26 y27, w x23 = some (.inl (0, n25, .inr (.inr (.inr (.inr f26))))) ∧ vp_in v3 n25 ∧ f26 (Int32.toNatClampNeg v3) = some y27 ∧ (post (some y27) w))))))))))))))) := h
    refine lv_iload_n hx hb dXKn_find_2 rfl (lv_at hl 2 rfl) ?_
    refine lv_aload_n hx hb dXKn_find_3 rfl (lv_at hl 0 rfl) ?_
    obtain ⟨x1, g2, h⟩ := h
    refine kg_XKn_12 hx hb hown hts hN hK hP g2 dXKn_find_4 ?_
    obtain ⟨x3, g4, h⟩ := h
    refine kg_XKn_18 hx hb hown hts hN hK hP g4 dXKn_find_7 ?_
    refine lv_icmp_ge (tgt := 49) hx hb dXKn_find_10 (by decide) (fun c5 => ?_) (fun c5 => ?_)
    · replace h := h.1 c5
      refine lv_null hx hb dXKn_find_49 ?_
      exact W.aret hx hb hr (Or.inl ⟨_, rfl⟩) (Or.inl rfl) (fun t ht hW => ⟨⟨none, _, rfl, h, by rw [fxC, ht]; exact hP⟩, hS.F ht⟩) hS.2.2 dXKn_find_50 hlocks
    · replace h := h.2 c5
      refine lv_aload_n hx hb dXKn_find_13 rfl (lv_at hl 0 rfl) ?_
      obtain ⟨x6, g7, h⟩ := h
      refine kg_XKn_12 hx hb hown hts hN hK hP g7 dXKn_find_14 ?_
      obtain ⟨x8, g9, h⟩ := h
      refine kg_XKn_26 hx hb hown hts hN hK hP g9 dXKn_find_17 ?_
      refine lv_iload_n hx hb dXKn_find_20 rfl (lv_at hl 2 rfl) ?_
      obtain ⟨n10, f11, y12, g13, g14, g15, h⟩ := h
      refine kaa 0 rfl rfl hx hb hK hP g13 g14 g15 dXKn_find_21 ?_
      obtain ⟨x16, g17, h⟩ := h
      refine kg_XKn_30 hx hb hown hts hN hK hP g17 dXKn_find_22 ?_
      obtain ⟨x18, g19, h⟩ := h
      refine kg_XKn_36 hx hb hown hts hN hK hP g19 dXKn_find_25 ?_
      refine lv_lload_n hx hb dXKn_find_28 rfl (lv_at hl 1 rfl) ?_
      refine W.lcmp hx hb dXKn_find_29 ?_
      refine lv_if_ne (tgt := 43) hx hb dXKn_find_30 (by decide) (fun c20 => ?_) (fun c20 => ?_)
      · replace h := h.1 c20
        refine lv_iinc (v := v3 + 1) (lv' := [(3, .int (v3 + 1)), (0, .ref v0), (1, .long v1)]) hx hb dXKn_find_43 hl (k := 2) rfl rfl (by decide) rfl (fun ls hl => ?_)
        refine lv_goto (tgt := 2) hx hb dXKn_find_46 (by decide) ?_
        exact hK2 w v0 v1 (v3 + 1) h H locs ls hP hS (lv_sub hl [1, 2, 0] rfl)
      · replace h := h.2 c20
        refine lv_aload_n hx hb dXKn_find_33 rfl (lv_at hl 0 rfl) ?_
        obtain ⟨x21, g22, h⟩ := h
        refine kg_XKn_12 hx hb hown hts hN hK hP g22 dXKn_find_34 ?_
        obtain ⟨x23, g24, h⟩ := h
        refine kg_XKn_26 hx hb hown hts hN hK hP g24 dXKn_find_37 ?_
        refine lv_iload_n hx hb dXKn_find_40 rfl (lv_at hl 2 rfl) ?_
        obtain ⟨n25, f26, y27, g28, g29, g30, h⟩ := h
        refine kaa 0 rfl rfl hx hb hK hP g28 g29 g30 dXKn_find_41 ?_
        exact W.aret hx hb hr (Or.inl ⟨_, rfl⟩) (Or.inr ⟨_, rfl⟩) (fun t ht hW => ⟨⟨(some y27), _, rfl, h, by rw [fxC, ht]; exact hP⟩, hS.F ht⟩) hS.2.2 dXKn_find_42 hlocks
set_option maxRecDepth 100000 in
set_option maxHeartbeats 4000000 in
theorem sKXKn_find_in {p : Program} {l : Launch} {e : Env} {s : State} {m : MethodId} {args : Array Value} {below : List Frame} {meth : Method} {c : Code} {D : va_G} {ca : Nat → Nat} {A : Nat → Prop} {post : Option Nat → fh_T → Prop} (C0 : kCx p s m args meth c D ca A RXKn cXKn_find 4 (some (.object "HashLinkedWeb$Member")) "find") : ∀ (w : fh_T) (a0 : Nat) (a1 : Int64), wKXKn_find post w a0 a1 → ∀ (H : Heap) (locs : List Loc) (ls : Array Slot), fh_ok D ca A w H → va_S A s.heap H locs → lv_has ls 4 [(0, .ref a0), (1, .long a1)] → W p l e ({ frames := 0, cells := 0, slots := 0, locals := 0 } : Room) s m args below meth c H locs 0 0 (MQ below (va_Qe (fun x => x) post (fxC (fh_ok D ca A)) A) args s 0 0 A) (F0 m 0 ls []) := by
  obtain ⟨hx, hb, hr, hml, hown, hts, hlocks, hK, hN, hE, hA, hin⟩ := id C0
  intro w a0 a1 h H locs ls hP hS hl
  replace h : (∃ k, wKXKn_find_2 post  k w a0 a1 0) := h
  refine lv_iconst (v := 0) hx hb dXKn_find_0 (by decide) ?_
  refine lv_istore_n (lv' := [(3, .int 0), (0, .ref a0), (1, .long a1)]) hx hb dXKn_find_1 rfl hl (by decide) rfl (fun ls hl => ?_)
  obtain ⟨k, h⟩ := h
  exact sKXKn_find_2  C0  k w a0 a1 0 h H locs ls hP hS (lv_sub hl [1, 2, 0] rfl)
set_option maxRecDepth 100000 in
set_option maxHeartbeats 4000000 in
theorem cKXKn_find {l : Launch} {D : va_G} {ca : Nat → Nat} {A : Nat → Prop} {post : Option Nat → fh_T → Prop} {w : fh_T} {a0 : Nat} {a1 : Int64} (h : wKXKn_find post w a0 a1) : Met l yXKn_find (.code yXKn_find cXKn_find 4 (some (.object "HashLinkedWeb$Member")) :: lg_tbl) ({ frames := 0, cells := 0, slots := 0, locals := 0 } : Room) (va_Pc [.ref a0, .long a1] (kB D ca A w)) (va_Qe (fun x => x) post (fxC (fh_ok D ca A)) A) 0 0 A := by
  refine fx_start (by decide +kernel) (Nat.le_of_ble_eq_true rfl) ?_
  intro p e s m below meth c ls hx hb hr hml hown hts hlocks hnm hB hl
  exact sKXKn_find_in ⟨hx, hb, hr, hml, hown, hts, hlocks, hB.2.2.1, hB.2.2.2.1, hB.2.2.2.2, hB.2.1, hnm⟩ w a0 a1 h _ _ ls hB.1 va_S.rf hl
def wKXW_contains (post : Int32 → fh_T → Prop) (w : fh_T) (a1 : Int64) (a2 : Int32) : Prop := (((lg_cmp ((hj_ushr a1 a2) &&& 1) 0) = 0 → (post 0 w)) ∧ (¬ (lg_cmp ((hj_ushr a1 a2) &&& 1) 0) = 0 → (post 1 w)))
set_option maxRecDepth 100000 in
set_option maxHeartbeats 4000000 in
theorem sKXW_contains_in {p : Program} {l : Launch} {e : Env} {s : State} {m : MethodId} {args : Array Value} {below : List Frame} {meth : Method} {c : Code} {D : va_G} {ca : Nat → Nat} {A : Nat → Prop} {post : Int32 → fh_T → Prop} (C0 : kCx p s m args meth c D ca A RXW cXW_contains 3 (some .boolean) "contains") : ∀ (w : fh_T) (a1 : Int64) (a2 : Int32), wKXW_contains post w a1 a2 → ∀ (H : Heap) (locs : List Loc) (ls : Array Slot), fh_ok D ca A w H → va_S A s.heap H locs → lv_has ls 3 [(0, .long a1), (2, .int a2)] → W p l e ({ frames := 0, cells := 0, slots := 0, locals := 0 } : Room) s m args below meth c H locs 0 0 (MQ below (va_Qi post (fxC (fh_ok D ca A)) A) args s 0 0 A) (F0 m 0 ls []) := by
  obtain ⟨hx, hb, hr, hml, hown, hts, hlocks, hK, hN, hE, hA, hin⟩ := id C0
  intro w a1 a2 h H locs ls hP hS hl
  replace h : (((lg_cmp ((hj_ushr a1 a2) &&& 1) 0) = 0 → (post 0 w)) ∧ (¬ (lg_cmp ((hj_ushr a1 a2) &&& 1) 0) = 0 → (post 1 w))) := h
  refine lv_lload_n hx hb dXW_contains_0 rfl (lv_at hl 0 rfl) ?_
  refine lv_iload_n hx hb dXW_contains_1 rfl (lv_at hl 1 rfl) ?_
  refine lv_lushr (v := hj_ushr a1 a2) hx hb dXW_contains_2 rfl ?_
  refine lv_lconst (v := 1) hx hb dXW_contains_3 (by decide) ?_
  refine lv_land hx hb dXW_contains_4 ?_
  refine lv_lconst (v := 0) hx hb dXW_contains_5 (by decide) ?_
  refine W.lcmp hx hb dXW_contains_6 ?_
  refine lv_if_eq (tgt := 14) hx hb dXW_contains_7 (by decide) (fun c1 => ?_) (fun c1 => ?_)
  · replace h := h.1 c1
    refine lv_iconst (v := 0) hx hb dXW_contains_14 (by decide) ?_
    exact W.zret hx hb hr rfl (fun t ht hW => ⟨⟨_, _, rfl, h, by rw [fxC, ht]; exact hP⟩, hS.F ht⟩) hS.2.2 dXW_contains_15 hlocks
  · replace h := h.2 c1
    refine lv_iconst (v := 1) hx hb dXW_contains_10 (by decide) ?_
    refine lv_goto (tgt := 15) hx hb dXW_contains_11 (by decide) ?_
    exact W.zret hx hb hr rfl (fun t ht hW => ⟨⟨_, _, rfl, h, by rw [fxC, ht]; exact hP⟩, hS.F ht⟩) hS.2.2 dXW_contains_15 hlocks
set_option maxRecDepth 100000 in
set_option maxHeartbeats 4000000 in
theorem cKXW_contains {l : Launch} {D : va_G} {ca : Nat → Nat} {A : Nat → Prop} {post : Int32 → fh_T → Prop} {w : fh_T} {a1 : Int64} {a2 : Int32} (h : wKXW_contains post w a1 a2) : Met l yXW_contains (.code yXW_contains cXW_contains 3 (some .boolean) :: lg_tbl) ({ frames := 0, cells := 0, slots := 0, locals := 0 } : Room) (va_Pc [.long a1, .int a2] (kB D ca A w)) (va_Qi post (fxC (fh_ok D ca A)) A) 0 0 A := by
  refine fx_start (by decide +kernel) (Nat.le_of_ble_eq_true rfl) ?_
  intro p e s m below meth c ls hx hb hr hml hown hts hlocks hnm hB hl
  exact sKXW_contains_in ⟨hx, hb, hr, hml, hown, hts, hlocks, hB.2.2.1, hB.2.2.2.1, hB.2.2.2.2, hB.2.1, hnm⟩ w a1 a2 h _ _ ls hB.1 va_S.rf hl
def wKXRe_holds (post : Int32 → fh_T → Prop) (w : fh_T) (a0 : Nat) (a1 : Nat) : Prop := (∃ x1, fh_g w a0 4 4 (.long x1) ∧ (∃ x3, fh_g w a1 7 1 (.int x3) ∧ (wKXW_contains (fun r5 w_5 => ((r5 = 0 → (post 0 w_5)) ∧ (¬ r5 = 0 → (post 1 w_5)))) w x1 x3)))
set_option maxRecDepth 100000 in
set_option maxHeartbeats 4000000 in
theorem sKXRe_holds_in {p : Program} {l : Launch} {e : Env} {s : State} {m : MethodId} {args : Array Value} {below : List Frame} {meth : Method} {c : Code} {D : va_G} {ca : Nat → Nat} {A : Nat → Prop} {post : Int32 → fh_T → Prop} (C0 : kCx p s m args meth c D ca A RXRe cXRe_holds 2 (some .boolean) "holds") : ∀ (w : fh_T) (a0 : Nat) (a1 : Nat), wKXRe_holds post w a0 a1 → ∀ (H : Heap) (locs : List Loc) (ls : Array Slot), fh_ok D ca A w H → va_S A s.heap H locs → lv_has ls 2 [(0, .ref a0), (1, .ref a1)] → W p l e ({ frames := 1, cells := 0, slots := 0, locals := 22 } : Room) s m args below meth c H locs 0 0 (MQ below (va_Qi post (fxC (fh_ok D ca A)) A) args s 0 0 A) (F0 m 0 ls []) := by
  obtain ⟨hx, hb, hr, hml, hown, hts, hlocks, hK, hN, hE, hA, hin⟩ := id C0
  intro w a0 a1 h H locs ls hP hS hl
  replace h : (∃ x1, fh_g w a0 4 4 (.long x1) ∧ (∃ x3, fh_g w a1 7 1 (.int x3) ∧ (wKXW_contains (fun r5 w_5 => ((r5 = 0 → (post 0 w_5)) ∧ (¬ r5 = 0 → (post 1 w_5)))) w x1 x3))) := h
  refine lv_aload_n hx hb dXRe_holds_0 rfl (lv_at hl 1 rfl) ?_
  refine lv_ifnull hx hb dXRe_holds_1 ?_
  refine lv_aload_n hx hb dXRe_holds_4 rfl (lv_at hl 0 rfl) ?_
  obtain ⟨x1, g2, h⟩ := h
  refine kg_XRe_32 hx hb hown hts hN hK hP g2 dXRe_holds_5 ?_
  refine lv_aload_n hx hb dXRe_holds_8 rfl (lv_at hl 1 rfl) ?_
  obtain ⟨x3, g4, h⟩ := h
  refine kg_XRe_36 hx hb hown hts hN hK hP g4 dXRe_holds_9 ?_
  refine va_calli (va_runSN (As := [.long x1, .int x3]) (rest := []) ⟨hx, hb, hml, hown, hts⟩ (cKXW_contains h) (gc_XRe_42 hts hN ⟨Nat.le_of_ble_eq_true rfl, Nat.le_of_ble_eq_true rfl⟩) (k_preS hP hS hA hK hN hE) rfl rfl hl.1 rfl (lv_room (Nat.le_of_ble_eq_true rfl)) dXRe_holds_12 ⟨Nat.le_of_ble_eq_true rfl, Nat.le_of_ble_eq_true rfl⟩) hS (fun _ _ q => q) (fun _ q => q) (fun r5 w_5 t H locs ht hvm h hP hz hk hS => ?_)
  rw [fxC, ht] at hP
  refine lv_if_eq (tgt := 22) hx hb dXRe_holds_15 (by decide) (fun c6 => ?_) (fun c6 => ?_)
  · replace h := h.1 c6
    refine lv_iconst (v := 0) hx hb dXRe_holds_22 (by decide) ?_
    exact W.zret hx hb hr rfl (fun t ht hW => ⟨⟨_, _, rfl, h, by rw [fxC, ht]; exact hP⟩, hS.F ht⟩) hS.2.2 dXRe_holds_23 hlocks
  · replace h := h.2 c6
    refine lv_iconst (v := 1) hx hb dXRe_holds_18 (by decide) ?_
    refine lv_goto (tgt := 23) hx hb dXRe_holds_19 (by decide) ?_
    exact W.zret hx hb hr rfl (fun t ht hW => ⟨⟨_, _, rfl, h, by rw [fxC, ht]; exact hP⟩, hS.F ht⟩) hS.2.2 dXRe_holds_23 hlocks
set_option maxRecDepth 100000 in
set_option maxHeartbeats 4000000 in
theorem cKXRe_holds {l : Launch} {D : va_G} {ca : Nat → Nat} {A : Nat → Prop} {post : Int32 → fh_T → Prop} {w : fh_T} {a0 : Nat} {a1 : Nat} (h : wKXRe_holds post w a0 a1) : Met l yXRe_holds (.code yXRe_holds cXRe_holds 2 (some .boolean) :: lg_tbl) ({ frames := 1, cells := 0, slots := 0, locals := 22 } : Room) (va_Pc [.ref a0, .ref a1] (kB D ca A w)) (va_Qi post (fxC (fh_ok D ca A)) A) 0 0 A := by
  refine fx_start (by decide +kernel) (Nat.le_of_ble_eq_true rfl) ?_
  intro p e s m below meth c ls hx hb hr hml hown hts hlocks hnm hB hl
  exact sKXRe_holds_in ⟨hx, hb, hr, hml, hown, hts, hlocks, hB.2.2.1, hB.2.2.2.1, hB.2.2.2.2, hB.2.1, hnm⟩ w a0 a1 h _ _ ls hB.1 va_S.rf hl
def wKXRe_holdsN (post : Int32 → fh_T → Prop) (w : fh_T) (a0 : Nat) : Prop := (post 0 w)
set_option maxRecDepth 100000 in
set_option maxHeartbeats 4000000 in
theorem sKXRe_holdsN_in {p : Program} {l : Launch} {e : Env} {s : State} {m : MethodId} {args : Array Value} {below : List Frame} {meth : Method} {c : Code} {D : va_G} {ca : Nat → Nat} {A : Nat → Prop} {post : Int32 → fh_T → Prop} (C0 : kCx p s m args meth c D ca A RXRe cXRe_holds 2 (some .boolean) "holds") : ∀ (w : fh_T) (a0 : Nat), wKXRe_holdsN post w a0 → ∀ (H : Heap) (locs : List Loc) (ls : Array Slot), fh_ok D ca A w H → va_S A s.heap H locs → lv_has ls 2 [(0, .ref a0), (1, .null)] → W p l e ({ frames := 1, cells := 0, slots := 0, locals := 22 } : Room) s m args below meth c H locs 0 0 (MQ below (va_Qi post (fxC (fh_ok D ca A)) A) args s 0 0 A) (F0 m 0 ls []) := by
  obtain ⟨hx, hb, hr, hml, hown, hts, hlocks, hK, hN, hE, hA, hin⟩ := id C0
  intro w a0 h H locs ls hP hS hl
  replace h : (post 0 w) := h
  refine lv_aload_nN hx hb dXRe_holds_0 rfl (lv_at hl 1 rfl) ?_
  refine lv_ifnullN (tgt := 22) hx hb dXRe_holds_1 (by decide) ?_
  refine lv_iconst (v := 0) hx hb dXRe_holds_22 (by decide) ?_
  exact W.zret hx hb hr rfl (fun t ht hW => ⟨⟨_, _, rfl, h, by rw [fxC, ht]; exact hP⟩, hS.F ht⟩) hS.2.2 dXRe_holds_23 hlocks
set_option maxRecDepth 100000 in
set_option maxHeartbeats 4000000 in
theorem cKXRe_holdsN {l : Launch} {D : va_G} {ca : Nat → Nat} {A : Nat → Prop} {post : Int32 → fh_T → Prop} {w : fh_T} {a0 : Nat} (h : wKXRe_holdsN post w a0) : Met l yXRe_holds (.code yXRe_holds cXRe_holds 2 (some .boolean) :: lg_tbl) ({ frames := 1, cells := 0, slots := 0, locals := 22 } : Room) (va_Pc [.ref a0, .null] (kB D ca A w)) (va_Qi post (fxC (fh_ok D ca A)) A) 0 0 A := by
  refine fx_start (by decide +kernel) (Nat.le_of_ble_eq_true rfl) ?_
  intro p e s m below meth c ls hx hb hr hml hown hts hlocks hnm hB hl
  exact sKXRe_holdsN_in ⟨hx, hb, hr, hml, hown, hts, hlocks, hB.2.2.1, hB.2.2.2.1, hB.2.2.2.2, hB.2.1, hnm⟩ w a0 h _ _ ls hB.1 va_S.rf hl
noncomputable def wKXOp_linksGrow_2 (post : Int32 → fh_T → Prop) (n : Nat) : fh_T → Nat → Int32 → Prop := Nat.rec (motive := fun _ => fh_T → Nat → Int32 → Prop) (fun _ _ _ => False) (fun _ K2 w v0 v1 => (∃ x1, fh_g w v0 5 4 (.ref x1) ∧ (∃ n3 z4, w x1 = some (.inl (2, n3, z4)) ∧ (((nI n3) ≤ v1 → (post 1 w)) ∧ (¬ (nI n3) ≤ v1 → (∃ x7, fh_g w v0 5 4 (.ref x7) ∧ (∃ n9 f10, w x7 = some (.inl (2, n9, .inr (.inl f10))) ∧ vp_in (v1 - 1) n9 ∧ (∃ x13, fh_g w v0 5 4 (.ref x13) ∧ (∃ n15 f16, w x13 = some (.inl (2, n15, .inr (.inl f16))) ∧ vp_in v1 n15 ∧ (((lg_cmp (f10 (Int32.toNatClampNeg (v1 - 1))) (f16 (Int32.toNatClampNeg v1))) < 0 → (K2 w v0 (v1 + 1))) ∧ (¬ (lg_cmp (f10 (Int32.toNatClampNeg (v1 - 1))) (f16 (Int32.toNatClampNeg v1))) < 0 → (post 0 w)))))))))))) n
def wKXOp_linksGrow (post : Int32 → fh_T → Prop) (w : fh_T) (a0 : Nat) : Prop := (∃ k, wKXOp_linksGrow_2 post  k w a0 1)
set_option maxRecDepth 100000 in
set_option maxHeartbeats 4000000 in
theorem sKXOp_linksGrow_2 {p : Program} {l : Launch} {e : Env} {s : State} {m : MethodId} {args : Array Value} {below : List Frame} {meth : Method} {c : Code} {D : va_G} {ca : Nat → Nat} {A : Nat → Prop} {post : Int32 → fh_T → Prop} (C0 : kCx p s m args meth c D ca A RXOp cXOp_linksGrow 2 (some .boolean) "linksGrow") : ∀ (n : Nat) (w : fh_T) (v0 : Nat) (v1 : Int32), wKXOp_linksGrow_2 post  n w v0 v1 → ∀ (H : Heap) (locs : List Loc) (ls : Array Slot), fh_ok D ca A w H → va_S A s.heap H locs → lv_has ls 2 [(0, .ref v0), (1, .int v1)] → W p l e ({ frames := 0, cells := 0, slots := 0, locals := 0 } : Room) s m args below meth c H locs 0 0 (MQ below (va_Qi post (fxC (fh_ok D ca A)) A) args s 0 0 A) (F0 m 2 ls []) := by
  obtain ⟨hx, hb, hr, hml, hown, hts, hlocks, hK, hN, hE, hA, hin⟩ := id C0
  intro n
  induction n with
  | zero => exact fun _ _ _ h => h.elim
  | succ n hK2 =>
    intro w v0 v1 h H locs ls hP hS hl
    replace h : (∃ x1, fh_g w v0 5 4 (.ref x1) ∧ (∃ n3 z4, w x1 = some (.inl (2, n3, z4)) ∧ (((nI n3) ≤ v1 → (post 1 w)) ∧ (¬ (nI n3) ≤ v1 → (∃ x7, fh_g w v0 5 4 (.ref x7) ∧ (∃ n9 f10, w x7 = some (.inl (2, n9, .inr (.inl f10))) ∧ vp_in (v1 - 1) n9 ∧ (∃ x13, fh_g w v0 5 4 (.ref x13) ∧ (∃ n15 f16, w x13 = some (.inl (2, n15, .inr (.inl f16))) ∧ vp_in v1 n15 ∧ (((lg_cmp (f10 (Int32.toNatClampNeg (v1 - 1))) (f16 (Int32.toNatClampNeg v1))) < 0 → ((wKXOp_linksGrow_2 post  n) w v0 (v1 + 1))) ∧ (¬ (lg_cmp (f10 (Int32.toNatClampNeg (v1 - 1))) (f16 (Int32.toNatClampNeg v1))) < 0 → (post 0 w))))))))))) := h
    refine lv_iload_n hx hb dXOp_linksGrow_2 rfl (lv_at hl 1 rfl) ?_
    refine lv_aload_n hx hb dXOp_linksGrow_3 rfl (lv_at hl 0 rfl) ?_
    obtain ⟨x1, g2, h⟩ := h
    refine kg_XOp_24 hx hb hown hts hN hK hP g2 dXOp_linksGrow_4 ?_
    obtain ⟨n3, z4, g5, h⟩ := h
    refine kal 2 rfl rfl hx hb hK hP g5 dXOp_linksGrow_7 ?_
    refine lv_icmp_ge (tgt := 37) hx hb dXOp_linksGrow_8 (by decide) (fun c6 => ?_) (fun c6 => ?_)
    · replace h := h.1 c6
      refine lv_iconst (v := 1) hx hb dXOp_linksGrow_37 (by decide) ?_
      exact W.zret hx hb hr rfl (fun t ht hW => ⟨⟨_, _, rfl, h, by rw [fxC, ht]; exact hP⟩, hS.F ht⟩) hS.2.2 dXOp_linksGrow_38 hlocks
    · replace h := h.2 c6
      refine lv_aload_n hx hb dXOp_linksGrow_11 rfl (lv_at hl 0 rfl) ?_
      obtain ⟨x7, g8, h⟩ := h
      refine kg_XOp_24 hx hb hown hts hN hK hP g8 dXOp_linksGrow_12 ?_
      refine lv_iload_n hx hb dXOp_linksGrow_15 rfl (lv_at hl 1 rfl) ?_
      refine lv_iconst (v := 1) hx hb dXOp_linksGrow_16 (by decide) ?_
      refine lv_isub hx hb dXOp_linksGrow_17 ?_
      obtain ⟨n9, f10, g11, g12, h⟩ := h
      refine kla hx hb hK hP g11 g12 dXOp_linksGrow_18 ?_
      refine lv_aload_n hx hb dXOp_linksGrow_19 rfl (lv_at hl 0 rfl) ?_
      obtain ⟨x13, g14, h⟩ := h
      refine kg_XOp_24 hx hb hown hts hN hK hP g14 dXOp_linksGrow_20 ?_
      refine lv_iload_n hx hb dXOp_linksGrow_23 rfl (lv_at hl 1 rfl) ?_
      obtain ⟨n15, f16, g17, g18, h⟩ := h
      refine kla hx hb hK hP g17 g18 dXOp_linksGrow_24 ?_
      refine W.lcmp hx hb dXOp_linksGrow_25 ?_
      refine lv_if_lt (tgt := 31) hx hb dXOp_linksGrow_26 (by decide) (fun c19 => ?_) (fun c19 => ?_)
      · replace h := h.1 c19
        refine lv_iinc (v := v1 + 1) (lv' := [(1, .int (v1 + 1)), (0, .ref v0)]) hx hb dXOp_linksGrow_31 hl (k := 1) rfl rfl (by decide) rfl (fun ls hl => ?_)
        refine lv_goto (tgt := 2) hx hb dXOp_linksGrow_34 (by decide) ?_
        exact hK2 w v0 (v1 + 1) h H locs ls hP hS (lv_sub hl [1, 0] rfl)
      · replace h := h.2 c19
        refine lv_iconst (v := 0) hx hb dXOp_linksGrow_29 (by decide) ?_
        exact W.zret hx hb hr rfl (fun t ht hW => ⟨⟨_, _, rfl, h, by rw [fxC, ht]; exact hP⟩, hS.F ht⟩) hS.2.2 dXOp_linksGrow_30 hlocks
set_option maxRecDepth 100000 in
set_option maxHeartbeats 4000000 in
theorem sKXOp_linksGrow_in {p : Program} {l : Launch} {e : Env} {s : State} {m : MethodId} {args : Array Value} {below : List Frame} {meth : Method} {c : Code} {D : va_G} {ca : Nat → Nat} {A : Nat → Prop} {post : Int32 → fh_T → Prop} (C0 : kCx p s m args meth c D ca A RXOp cXOp_linksGrow 2 (some .boolean) "linksGrow") : ∀ (w : fh_T) (a0 : Nat), wKXOp_linksGrow post w a0 → ∀ (H : Heap) (locs : List Loc) (ls : Array Slot), fh_ok D ca A w H → va_S A s.heap H locs → lv_has ls 2 [(0, .ref a0)] → W p l e ({ frames := 0, cells := 0, slots := 0, locals := 0 } : Room) s m args below meth c H locs 0 0 (MQ below (va_Qi post (fxC (fh_ok D ca A)) A) args s 0 0 A) (F0 m 0 ls []) := by
  obtain ⟨hx, hb, hr, hml, hown, hts, hlocks, hK, hN, hE, hA, hin⟩ := id C0
  intro w a0 h H locs ls hP hS hl
  replace h : (∃ k, wKXOp_linksGrow_2 post  k w a0 1) := h
  refine lv_iconst (v := 1) hx hb dXOp_linksGrow_0 (by decide) ?_
  refine lv_istore_n (lv' := [(1, .int 1), (0, .ref a0)]) hx hb dXOp_linksGrow_1 rfl hl (by decide) rfl (fun ls hl => ?_)
  obtain ⟨k, h⟩ := h
  exact sKXOp_linksGrow_2  C0  k w a0 1 h H locs ls hP hS (lv_sub hl [1, 0] rfl)
set_option maxRecDepth 100000 in
set_option maxHeartbeats 4000000 in
theorem cKXOp_linksGrow {l : Launch} {D : va_G} {ca : Nat → Nat} {A : Nat → Prop} {post : Int32 → fh_T → Prop} {w : fh_T} {a0 : Nat} (h : wKXOp_linksGrow post w a0) : Met l yXOp_linksGrow (.code yXOp_linksGrow cXOp_linksGrow 2 (some .boolean) :: lg_tbl) ({ frames := 0, cells := 0, slots := 0, locals := 0 } : Room) (va_Pc [.ref a0] (kB D ca A w)) (va_Qi post (fxC (fh_ok D ca A)) A) 0 0 A := by
  refine fx_start (by decide +kernel) (Nat.le_of_ble_eq_true rfl) ?_
  intro p e s m below meth c ls hx hb hr hml hown hts hlocks hnm hB hl
  exact sKXOp_linksGrow_in ⟨hx, hb, hr, hml, hown, hts, hlocks, hB.2.2.1, hB.2.2.2.1, hB.2.2.2.2, hB.2.1, hnm⟩ w a0 h _ _ ls hB.1 va_S.rf hl
def wKXOp_isInShape (post : Int32 → fh_T → Prop) (w : fh_T) (a0 : Nat) : Prop := (∃ x1, fh_g w a0 5 0 (.int x1) ∧ ((x1 < 0 → (post 0 w)) ∧ (¬ x1 < 0 → (∃ x4, fh_g w a0 5 0 (.int x4) ∧ ((4 ≤ x4 → (post 0 w)) ∧ (¬ 4 ≤ x4 → (∃ x7, fh_g w a0 5 1 (.int x7) ∧ ((x7 < 0 → (post 0 w)) ∧ (¬ x7 < 0 → (∃ x10, fh_g w a0 5 1 (.int x10) ∧ ((3 < x10 → (post 0 w)) ∧ (¬ 3 < x10 → (∃ x13, fh_g w a0 5 2 (.int x13) ∧ ((x13 < 0 → (post 0 w)) ∧ (¬ x13 < 0 → (∃ x16, fh_g w a0 5 2 (.int x16) ∧ ((8 ≤ x16 → (post 0 w)) ∧ (¬ 8 ≤ x16 → (∃ fs20, w a0 = some (.inr (5, fs20)) ∧ (wKXOp_linksGrow (fun r19 w_19 => ((r19 = 0 → (post 0 w_19)) ∧ (¬ r19 = 0 → (post 1 w_19)))) w a0))))))))))))))))))))
set_option maxRecDepth 100000 in
set_option maxHeartbeats 4000000 in
theorem sKXOp_isInShape_in {p : Program} {l : Launch} {e : Env} {s : State} {m : MethodId} {args : Array Value} {below : List Frame} {meth : Method} {c : Code} {D : va_G} {ca : Nat → Nat} {A : Nat → Prop} {post : Int32 → fh_T → Prop} (C0 : kCx p s m args meth c D ca A RXOp cXOp_isInShape 1 (some .boolean) "isInShape") : ∀ (w : fh_T) (a0 : Nat), wKXOp_isInShape post w a0 → ∀ (H : Heap) (locs : List Loc) (ls : Array Slot), fh_ok D ca A w H → va_S A s.heap H locs → lv_has ls 1 [(0, .ref a0)] → W p l e ({ frames := 1, cells := 0, slots := 0, locals := 21 } : Room) s m args below meth c H locs 0 0 (MQ below (va_Qi post (fxC (fh_ok D ca A)) A) args s 0 0 A) (F0 m 0 ls []) := by
  obtain ⟨hx, hb, hr, hml, hown, hts, hlocks, hK, hN, hE, hA, hin⟩ := id C0
  intro w a0 h H locs ls hP hS hl
  replace h : (∃ x1, fh_g w a0 5 0 (.int x1) ∧ ((x1 < 0 → (post 0 w)) ∧ (¬ x1 < 0 → (∃ x4, fh_g w a0 5 0 (.int x4) ∧ ((4 ≤ x4 → (post 0 w)) ∧ (¬ 4 ≤ x4 → (∃ x7, fh_g w a0 5 1 (.int x7) ∧ ((x7 < 0 → (post 0 w)) ∧ (¬ x7 < 0 → (∃ x10, fh_g w a0 5 1 (.int x10) ∧ ((3 < x10 → (post 0 w)) ∧ (¬ 3 < x10 → (∃ x13, fh_g w a0 5 2 (.int x13) ∧ ((x13 < 0 → (post 0 w)) ∧ (¬ x13 < 0 → (∃ x16, fh_g w a0 5 2 (.int x16) ∧ ((8 ≤ x16 → (post 0 w)) ∧ (¬ 8 ≤ x16 → (∃ fs20, w a0 = some (.inr (5, fs20)) ∧ (wKXOp_linksGrow (fun r19 w_19 => ((r19 = 0 → (post 0 w_19)) ∧ (¬ r19 = 0 → (post 1 w_19)))) w a0)))))))))))))))))))) := h
  refine lv_aload_n hx hb dXOp_isInShape_0 rfl (lv_at hl 0 rfl) ?_
  obtain ⟨x1, g2, h⟩ := h
  refine kg_XOp_9 hx hb hown hts hN hK hP g2 dXOp_isInShape_1 ?_
  refine lv_if_lt (tgt := 57) hx hb dXOp_isInShape_4 (by decide) (fun c3 => ?_) (fun c3 => ?_)
  · replace h := h.1 c3
    refine lv_iconst (v := 0) hx hb dXOp_isInShape_57 (by decide) ?_
    exact W.zret hx hb hr rfl (fun t ht hW => ⟨⟨_, _, rfl, h, by rw [fxC, ht]; exact hP⟩, hS.F ht⟩) hS.2.2 dXOp_isInShape_58 hlocks
  · replace h := h.2 c3
    refine lv_aload_n hx hb dXOp_isInShape_7 rfl (lv_at hl 0 rfl) ?_
    obtain ⟨x4, g5, h⟩ := h
    refine kg_XOp_9 hx hb hown hts hN hK hP g5 dXOp_isInShape_8 ?_
    refine lv_iconst (v := 4) hx hb dXOp_isInShape_11 (by decide) ?_
    refine lv_icmp_ge (tgt := 57) hx hb dXOp_isInShape_12 (by decide) (fun c6 => ?_) (fun c6 => ?_)
    · replace h := h.1 c6
      refine lv_iconst (v := 0) hx hb dXOp_isInShape_57 (by decide) ?_
      exact W.zret hx hb hr rfl (fun t ht hW => ⟨⟨_, _, rfl, h, by rw [fxC, ht]; exact hP⟩, hS.F ht⟩) hS.2.2 dXOp_isInShape_58 hlocks
    · replace h := h.2 c6
      refine lv_aload_n hx hb dXOp_isInShape_15 rfl (lv_at hl 0 rfl) ?_
      obtain ⟨x7, g8, h⟩ := h
      refine kg_XOp_15 hx hb hown hts hN hK hP g8 dXOp_isInShape_16 ?_
      refine lv_if_lt (tgt := 57) hx hb dXOp_isInShape_19 (by decide) (fun c9 => ?_) (fun c9 => ?_)
      · replace h := h.1 c9
        refine lv_iconst (v := 0) hx hb dXOp_isInShape_57 (by decide) ?_
        exact W.zret hx hb hr rfl (fun t ht hW => ⟨⟨_, _, rfl, h, by rw [fxC, ht]; exact hP⟩, hS.F ht⟩) hS.2.2 dXOp_isInShape_58 hlocks
      · replace h := h.2 c9
        refine lv_aload_n hx hb dXOp_isInShape_22 rfl (lv_at hl 0 rfl) ?_
        obtain ⟨x10, g11, h⟩ := h
        refine kg_XOp_15 hx hb hown hts hN hK hP g11 dXOp_isInShape_23 ?_
        refine lv_iconst (v := 3) hx hb dXOp_isInShape_26 (by decide) ?_
        refine lv_icmp_gt (tgt := 57) hx hb dXOp_isInShape_27 (by decide) (fun c12 => ?_) (fun c12 => ?_)
        · replace h := h.1 c12
          refine lv_iconst (v := 0) hx hb dXOp_isInShape_57 (by decide) ?_
          exact W.zret hx hb hr rfl (fun t ht hW => ⟨⟨_, _, rfl, h, by rw [fxC, ht]; exact hP⟩, hS.F ht⟩) hS.2.2 dXOp_isInShape_58 hlocks
        · replace h := h.2 c12
          refine lv_aload_n hx hb dXOp_isInShape_30 rfl (lv_at hl 0 rfl) ?_
          obtain ⟨x13, g14, h⟩ := h
          refine kg_XOp_18 hx hb hown hts hN hK hP g14 dXOp_isInShape_31 ?_
          refine lv_if_lt (tgt := 57) hx hb dXOp_isInShape_34 (by decide) (fun c15 => ?_) (fun c15 => ?_)
          · replace h := h.1 c15
            refine lv_iconst (v := 0) hx hb dXOp_isInShape_57 (by decide) ?_
            exact W.zret hx hb hr rfl (fun t ht hW => ⟨⟨_, _, rfl, h, by rw [fxC, ht]; exact hP⟩, hS.F ht⟩) hS.2.2 dXOp_isInShape_58 hlocks
          · replace h := h.2 c15
            refine lv_aload_n hx hb dXOp_isInShape_37 rfl (lv_at hl 0 rfl) ?_
            obtain ⟨x16, g17, h⟩ := h
            refine kg_XOp_18 hx hb hown hts hN hK hP g17 dXOp_isInShape_38 ?_
            refine lv_bipush (v := 8) hx hb dXOp_isInShape_41 (by decide) ?_
            refine lv_icmp_ge (tgt := 57) hx hb dXOp_isInShape_43 (by decide) (fun c18 => ?_) (fun c18 => ?_)
            · replace h := h.1 c18
              refine lv_iconst (v := 0) hx hb dXOp_isInShape_57 (by decide) ?_
              exact W.zret hx hb hr rfl (fun t ht hW => ⟨⟨_, _, rfl, h, by rw [fxC, ht]; exact hP⟩, hS.F ht⟩) hS.2.2 dXOp_isInShape_58 hlocks
            · replace h := h.2 c18
              refine lv_aload_n hx hb dXOp_isInShape_46 rfl (lv_at hl 0 rfl) ?_
              obtain ⟨fs20, g21, h⟩ := h
              refine va_calli (va_runV (As := []) (rest := []) ⟨hx, hb, hml, hown, hts⟩ (cKXOp_linksGrow h) (gc_XOp_40 hts hN ⟨Nat.le_of_ble_eq_true rfl, Nat.le_of_ble_eq_true rfl⟩) (k_preV g21 rfl hP hS hA hK hN hE) rfl rfl hl.1 rfl (lv_room (Nat.le_of_ble_eq_true rfl)) dXOp_isInShape_47 ⟨Nat.le_of_ble_eq_true rfl, Nat.le_of_ble_eq_true rfl⟩) hS (fun _ _ q => q) (fun _ q => q) (fun r19 w_19 t H locs ht hvm h hP hz hk hS => ?_)
              rw [fxC, ht] at hP
              refine lv_if_eq (tgt := 57) hx hb dXOp_isInShape_50 (by decide) (fun c22 => ?_) (fun c22 => ?_)
              · replace h := h.1 c22
                refine lv_iconst (v := 0) hx hb dXOp_isInShape_57 (by decide) ?_
                exact W.zret hx hb hr rfl (fun t ht hW => ⟨⟨_, _, rfl, h, by rw [fxC, ht]; exact hP⟩, hS.F ht⟩) hS.2.2 dXOp_isInShape_58 hlocks
              · replace h := h.2 c22
                refine lv_iconst (v := 1) hx hb dXOp_isInShape_53 (by decide) ?_
                refine lv_goto (tgt := 58) hx hb dXOp_isInShape_54 (by decide) ?_
                exact W.zret hx hb hr rfl (fun t ht hW => ⟨⟨_, _, rfl, h, by rw [fxC, ht]; exact hP⟩, hS.F ht⟩) hS.2.2 dXOp_isInShape_58 hlocks
set_option maxRecDepth 100000 in
set_option maxHeartbeats 4000000 in
theorem cKXOp_isInShape {l : Launch} {D : va_G} {ca : Nat → Nat} {A : Nat → Prop} {post : Int32 → fh_T → Prop} {w : fh_T} {a0 : Nat} (h : wKXOp_isInShape post w a0) : Met l yXOp_isInShape (.code yXOp_isInShape cXOp_isInShape 1 (some .boolean) :: lg_tbl) ({ frames := 1, cells := 0, slots := 0, locals := 21 } : Room) (va_Pc [.ref a0] (kB D ca A w)) (va_Qi post (fxC (fh_ok D ca A)) A) 0 0 A := by
  refine fx_start (by decide +kernel) (Nat.le_of_ble_eq_true rfl) ?_
  intro p e s m below meth c ls hx hb hr hml hown hts hlocks hnm hB hl
  exact sKXOp_isInShape_in ⟨hx, hb, hr, hml, hown, hts, hlocks, hB.2.2.1, hB.2.2.2.1, hB.2.2.2.2, hB.2.1, hnm⟩ w a0 h _ _ ls hB.1 va_S.rf hl
noncomputable def wKXRe_holdsLinks_2 (post : Int32 → fh_T → Prop) (n : Nat) : fh_T → Nat → Nat → Int32 → Prop := Nat.rec (motive := fun _ => fh_T → Nat → Nat → Int32 → Prop) (fun _ _ _ _ => False) (fun _ K2 w v0 v1 v2 => (∃ x1, fh_g w v1 5 4 (.ref x1) ∧ (∃ n3 z4, w x1 = some (.inl (2, n3, z4)) ∧ (((nI n3) ≤ v2 → (post 1 w)) ∧ (¬ (nI n3) ≤ v2 → (∃ x7, fh_g w v0 4 0 (.ref x7) ∧ (∃ x9, fh_g w v1 5 4 (.ref x9) ∧ (∃ n11 f12, w x9 = some (.inl (2, n11, .inr (.inl f12))) ∧ vp_in v2 n11 ∧ (∃ fs16, w x7 = some (.inr (2, fs16)) ∧ (wKXKn_find (fun r15 w_15 => ((r15 = none → (∃ fs19, w_15 v0 = some (.inr (4, fs19)) ∧ (wKXRe_holdsN (fun r18 w_18 => ((¬ r18 = 0 → (K2 w_18 v0 v1 (v2 + 1))) ∧ (r18 = 0 → (post 0 w_18)))) w_15 v0))) ∧ (∀ y22, r15 = some y22 → (∃ fs24, w_15 v0 = some (.inr (4, fs24)) ∧ (wKXRe_holds (fun r23 w_23 => ((¬ r23 = 0 → (K2 w_23 v0 v1 (v2 + 1))) ∧ (r23 = 0 → (post 0 w_23)))) w_15 v0 y22))))) w x7 (f12 (Int32.toNatClampNeg v2)))))))))))) n
def wKXRe_holdsLinks (post : Int32 → fh_T → Prop) (w : fh_T) (a0 : Nat) (a1 : Nat) : Prop := (∃ k, wKXRe_holdsLinks_2 post  k w a0 a1 0)
set_option maxRecDepth 100000 in
set_option maxHeartbeats 4000000 in
theorem sKXRe_holdsLinks_2 {p : Program} {l : Launch} {e : Env} {s : State} {m : MethodId} {args : Array Value} {below : List Frame} {meth : Method} {c : Code} {D : va_G} {ca : Nat → Nat} {A : Nat → Prop} {post : Int32 → fh_T → Prop} (C0 : kCx p s m args meth c D ca A RXRe cXRe_holdsLinks 3 (some .boolean) "holdsLinks") : ∀ (n : Nat) (w : fh_T) (v0 : Nat) (v1 : Nat) (v2 : Int32), wKXRe_holdsLinks_2 post  n w v0 v1 v2 → ∀ (H : Heap) (locs : List Loc) (ls : Array Slot), fh_ok D ca A w H → va_S A s.heap H locs → lv_has ls 3 [(0, .ref v0), (1, .ref v1), (2, .int v2)] → W p l e ({ frames := 2, cells := 0, slots := 0, locals := 43 } : Room) s m args below meth c H locs 0 0 (MQ below (va_Qi post (fxC (fh_ok D ca A)) A) args s 0 0 A) (F0 m 2 ls []) := by
  obtain ⟨hx, hb, hr, hml, hown, hts, hlocks, hK, hN, hE, hA, hin⟩ := id C0
  intro n
  induction n with
  | zero => exact fun _ _ _ _ h => h.elim
  | succ n hK2 =>
    intro w v0 v1 v2 h H locs ls hP hS hl
    replace h : (∃ x1, fh_g w v1 5 4 (.ref x1) ∧ (∃ n3 z4, w x1 = some (.inl (2, n3, z4)) ∧ (((nI n3) ≤ v2 → (post 1 w)) ∧ (¬ (nI n3) ≤ v2 → (∃ x7, fh_g w v0 4 0 (.ref x7) ∧ (∃ x9, fh_g w v1 5 4 (.ref x9) ∧ (∃ n11 f12, w x9 = some (.inl (2, n11, .inr (.inl f12))) ∧ vp_in v2 n11 ∧ (∃ fs16, w x7 = some (.inr (2, fs16)) ∧ (wKXKn_find (fun r15 w_15 => ((r15 = none → (∃ fs19, w_15 v0 = some (.inr (4, fs19)) ∧ (wKXRe_holdsN (fun r18 w_18 => ((¬ r18 = 0 → ((wKXRe_holdsLinks_2 post  n) w_18 v0 v1 (v2 + 1))) ∧ (r18 = 0 → (post 0 w_18)))) w_15 v0))) ∧ (∀ y22, r15 = some y22 → (∃ fs24, w_15 v0 = some (.inr (4, fs24)) ∧ (wKXRe_holds (fun r23 w_23 => ((¬ r23 = 0 → ((wKXRe_holdsLinks_2 post  n) w_23 v0 v1 (v2 + 1))) ∧ (r23 = 0 → (post 0 w_23)))) w_15 v0 y22))))) w x7 (f12 (Int32.toNatClampNeg v2))))))))))) := h
    refine lv_iload_n hx hb dXRe_holdsLinks_2 rfl (lv_at hl 2 rfl) ?_
    refine lv_aload_n hx hb dXRe_holdsLinks_3 rfl (lv_at hl 1 rfl) ?_
    obtain ⟨x1, g2, h⟩ := h
    refine kg_XRe_46 hx hb hown hts hN hK hP g2 dXRe_holdsLinks_4 ?_
    obtain ⟨n3, z4, g5, h⟩ := h
    refine kal 2 rfl rfl hx hb hK hP g5 dXRe_holdsLinks_7 ?_
    refine lv_icmp_ge (tgt := 39) hx hb dXRe_holdsLinks_8 (by decide) (fun c6 => ?_) (fun c6 => ?_)
    · replace h := h.1 c6
      refine lv_iconst (v := 1) hx hb dXRe_holdsLinks_39 (by decide) ?_
      exact W.zret hx hb hr rfl (fun t ht hW => ⟨⟨_, _, rfl, h, by rw [fxC, ht]; exact hP⟩, hS.F ht⟩) hS.2.2 dXRe_holdsLinks_40 hlocks
    · replace h := h.2 c6
      refine lv_aload_n hx hb dXRe_holdsLinks_11 rfl (lv_at hl 0 rfl) ?_
      refine lv_aload_n hx hb dXRe_holdsLinks_12 rfl (lv_at hl 0 rfl) ?_
      obtain ⟨x7, g8, h⟩ := h
      refine kg_XRe_28 hx hb hown hts hN hK hP g8 dXRe_holdsLinks_13 ?_
      refine lv_aload_n hx hb dXRe_holdsLinks_16 rfl (lv_at hl 1 rfl) ?_
      obtain ⟨x9, g10, h⟩ := h
      refine kg_XRe_46 hx hb hown hts hN hK hP g10 dXRe_holdsLinks_17 ?_
      refine lv_iload_n hx hb dXRe_holdsLinks_20 rfl (lv_at hl 2 rfl) ?_
      obtain ⟨n11, f12, g13, g14, h⟩ := h
      refine kla hx hb hK hP g13 g14 dXRe_holdsLinks_21 ?_
      obtain ⟨fs16, g17, h⟩ := h
      refine va_calle (va_runV (As := [.long (f12 (Int32.toNatClampNeg v2))]) (rest := [.ref v0]) ⟨hx, hb, hml, hown, hts⟩ (cKXKn_find h) (gc_XRe_52 hts hN ⟨Nat.le_of_ble_eq_true rfl, Nat.le_of_ble_eq_true rfl⟩) (k_preV g17 rfl hP hS hA hK hN hE) rfl rfl hl.1 rfl (lv_room (Nat.le_of_ble_eq_true rfl)) dXRe_holdsLinks_22 ⟨Nat.le_of_ble_eq_true rfl, Nat.le_of_ble_eq_true rfl⟩) hS (fun _ _ q => q) (fun _ q => q) (fun r15 w_15 t H locs ht hvm h hP hz hk hS => ?_)
      rw [fxC, ht] at hP
      rcases e27 : r15 with _ | y22
      · replace h := h.1 e27
        subst e27
        obtain ⟨fs19, g20, h⟩ := h
        refine va_calli (va_runV (As := [.null]) (rest := []) ⟨hx, hb, hml, hown, hts⟩ (cKXRe_holdsN h) (gc_XRe_58 hts hN ⟨Nat.le_of_ble_eq_true rfl, Nat.le_of_ble_eq_true rfl⟩) (k_preV g20 rfl hP hS hA hK hN hE) rfl rfl hl.1 rfl (lv_room (Nat.le_of_ble_eq_true rfl)) dXRe_holdsLinks_25 ⟨Nat.le_of_ble_eq_true rfl, Nat.le_of_ble_eq_true rfl⟩) hS (fun _ _ q => q) (fun _ q => q) (fun r18 w_18 t H locs ht hvm h hP hz hk hS => ?_)
        rw [fxC, ht] at hP
        refine lv_if_ne (tgt := 33) hx hb dXRe_holdsLinks_28 (by decide) (fun c21 => ?_) (fun c21 => ?_)
        · replace h := h.1 c21
          refine lv_iinc (v := v2 + 1) (lv' := [(2, .int (v2 + 1)), (0, .ref v0), (1, .ref v1)]) hx hb dXRe_holdsLinks_33 hl (k := 2) rfl rfl (by decide) rfl (fun ls hl => ?_)
          refine lv_goto (tgt := 2) hx hb dXRe_holdsLinks_36 (by decide) ?_
          exact hK2 w_18 v0 v1 (v2 + 1) h H locs ls hP hS (lv_sub hl [1, 2, 0] rfl)
        · replace h := h.2 c21
          refine lv_iconst (v := 0) hx hb dXRe_holdsLinks_31 (by decide) ?_
          exact W.zret hx hb hr rfl (fun t ht hW => ⟨⟨_, _, rfl, h, by rw [fxC, ht]; exact hP⟩, hS.F ht⟩) hS.2.2 dXRe_holdsLinks_32 hlocks
      · replace h := h.2 y22 e27
        subst e27
        obtain ⟨fs24, g25, h⟩ := h
        refine va_calli (va_runV (As := [.ref y22]) (rest := []) ⟨hx, hb, hml, hown, hts⟩ (cKXRe_holds h) (gc_XRe_58 hts hN ⟨Nat.le_of_ble_eq_true rfl, Nat.le_of_ble_eq_true rfl⟩) (k_preV g25 rfl hP hS hA hK hN hE) rfl rfl hl.1 rfl (lv_room (Nat.le_of_ble_eq_true rfl)) dXRe_holdsLinks_25 ⟨Nat.le_of_ble_eq_true rfl, Nat.le_of_ble_eq_true rfl⟩) hS (fun _ _ q => q) (fun _ q => q) (fun r23 w_23 t H locs ht hvm h hP hz hk hS => ?_)
        rw [fxC, ht] at hP
        refine lv_if_ne (tgt := 33) hx hb dXRe_holdsLinks_28 (by decide) (fun c26 => ?_) (fun c26 => ?_)
        · replace h := h.1 c26
          refine lv_iinc (v := v2 + 1) (lv' := [(2, .int (v2 + 1)), (0, .ref v0), (1, .ref v1)]) hx hb dXRe_holdsLinks_33 hl (k := 2) rfl rfl (by decide) rfl (fun ls hl => ?_)
          refine lv_goto (tgt := 2) hx hb dXRe_holdsLinks_36 (by decide) ?_
          exact hK2 w_23 v0 v1 (v2 + 1) h H locs ls hP hS (lv_sub hl [1, 2, 0] rfl)
        · replace h := h.2 c26
          refine lv_iconst (v := 0) hx hb dXRe_holdsLinks_31 (by decide) ?_
          exact W.zret hx hb hr rfl (fun t ht hW => ⟨⟨_, _, rfl, h, by rw [fxC, ht]; exact hP⟩, hS.F ht⟩) hS.2.2 dXRe_holdsLinks_32 hlocks
set_option maxRecDepth 100000 in
set_option maxHeartbeats 4000000 in
theorem sKXRe_holdsLinks_in {p : Program} {l : Launch} {e : Env} {s : State} {m : MethodId} {args : Array Value} {below : List Frame} {meth : Method} {c : Code} {D : va_G} {ca : Nat → Nat} {A : Nat → Prop} {post : Int32 → fh_T → Prop} (C0 : kCx p s m args meth c D ca A RXRe cXRe_holdsLinks 3 (some .boolean) "holdsLinks") : ∀ (w : fh_T) (a0 : Nat) (a1 : Nat), wKXRe_holdsLinks post w a0 a1 → ∀ (H : Heap) (locs : List Loc) (ls : Array Slot), fh_ok D ca A w H → va_S A s.heap H locs → lv_has ls 3 [(0, .ref a0), (1, .ref a1)] → W p l e ({ frames := 2, cells := 0, slots := 0, locals := 43 } : Room) s m args below meth c H locs 0 0 (MQ below (va_Qi post (fxC (fh_ok D ca A)) A) args s 0 0 A) (F0 m 0 ls []) := by
  obtain ⟨hx, hb, hr, hml, hown, hts, hlocks, hK, hN, hE, hA, hin⟩ := id C0
  intro w a0 a1 h H locs ls hP hS hl
  replace h : (∃ k, wKXRe_holdsLinks_2 post  k w a0 a1 0) := h
  refine lv_iconst (v := 0) hx hb dXRe_holdsLinks_0 (by decide) ?_
  refine lv_istore_n (lv' := [(2, .int 0), (0, .ref a0), (1, .ref a1)]) hx hb dXRe_holdsLinks_1 rfl hl (by decide) rfl (fun ls hl => ?_)
  obtain ⟨k, h⟩ := h
  exact sKXRe_holdsLinks_2  C0  k w a0 a1 0 h H locs ls hP hS (lv_sub hl [1, 2, 0] rfl)
set_option maxRecDepth 100000 in
set_option maxHeartbeats 4000000 in
theorem cKXRe_holdsLinks {l : Launch} {D : va_G} {ca : Nat → Nat} {A : Nat → Prop} {post : Int32 → fh_T → Prop} {w : fh_T} {a0 : Nat} {a1 : Nat} (h : wKXRe_holdsLinks post w a0 a1) : Met l yXRe_holdsLinks (.code yXRe_holdsLinks cXRe_holdsLinks 3 (some .boolean) :: lg_tbl) ({ frames := 2, cells := 0, slots := 0, locals := 43 } : Room) (va_Pc [.ref a0, .ref a1] (kB D ca A w)) (va_Qi post (fxC (fh_ok D ca A)) A) 0 0 A := by
  refine fx_start (by decide +kernel) (Nat.le_of_ble_eq_true rfl) ?_
  intro p e s m below meth c ls hx hb hr hml hown hts hlocks hnm hB hl
  exact sKXRe_holdsLinks_in ⟨hx, hb, hr, hml, hown, hts, hlocks, hB.2.2.1, hB.2.2.2.1, hB.2.2.2.2, hB.2.1, hnm⟩ w a0 a1 h _ _ ls hB.1 va_S.rf hl
