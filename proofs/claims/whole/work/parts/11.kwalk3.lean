def wKXAL_size (post : Int32 → fh_T → Prop) (w : fh_T) (a0 : Nat) : Prop := (∃ x1, fh_g w a0 9 2 (.int x1) ∧ (post x1 w))
set_option maxRecDepth 100000 in
set_option maxHeartbeats 4000000 in
theorem sKXAL_size_in {p : Program} {l : Launch} {e : Env} {s : State} {m : MethodId} {args : Array Value} {below : List Frame} {meth : Method} {c : Code} {D : va_G} {ca : Nat → Nat} {A : Nat → Prop} {post : Int32 → fh_T → Prop} (C0 : kCx p s m args meth c D ca A RXAL cXAL_size 1 (some .int) "size") : ∀ (w : fh_T) (a0 : Nat), wKXAL_size post w a0 → ∀ (H : Heap) (locs : List Loc) (ls : Array Slot), fh_ok D ca A w H → va_S A s.heap H locs → lv_has ls 1 [(0, .ref a0)] → W p l e ({ frames := 0, cells := 0, slots := 0, locals := 0 } : Room) s m args below meth c H locs 0 0 (MQ below (va_Qi post (fxC (fh_ok D ca A)) A) args s 0 0 A) (F0 m 0 ls []) := by
  obtain ⟨hx, hb, hr, hml, hown, hts, hlocks, hK, hN, hE, hA, hin⟩ := id C0
  intro w a0 h H locs ls hP hS hl
  replace h : (∃ x1, fh_g w a0 9 2 (.int x1) ∧ (post x1 w)) := h
  refine lv_aload_n hx hb dXAL_size_0 rfl (lv_at hl 0 rfl) ?_
  obtain ⟨x1, g2, h⟩ := h
  refine kg_XAL_48 hx hb hown hts hN hK hP g2 dXAL_size_1 ?_
  exact W.iret hx hb hr (fun t ht hW => ⟨⟨_, _, rfl, h, by rw [fxC, ht]; exact hP⟩, hS.F ht⟩) hS.2.2 dXAL_size_4 hlocks
set_option maxRecDepth 100000 in
set_option maxHeartbeats 4000000 in
theorem cKXAL_size {l : Launch} {D : va_G} {ca : Nat → Nat} {A : Nat → Prop} {post : Int32 → fh_T → Prop} {w : fh_T} {a0 : Nat} (h : wKXAL_size post w a0) : Met l yXAL_size (.code yXAL_size cXAL_size 1 (some .int) :: lg_tbl) ({ frames := 0, cells := 0, slots := 0, locals := 0 } : Room) (va_Pc [.ref a0] (kB D ca A w)) (va_Qi post (fxC (fh_ok D ca A)) A) 0 0 A := by
  refine fx_start (by decide +kernel) (Nat.le_of_ble_eq_true rfl) ?_
  intro p e s m below meth c ls hx hb hr hml hown hts hlocks hnm hB hl
  exact sKXAL_size_in ⟨hx, hb, hr, hml, hown, hts, hlocks, hB.2.2.1, hB.2.2.2.1, hB.2.2.2.2, hB.2.1, hnm⟩ w a0 h _ _ ls hB.1 va_S.rf hl
def wKXPr_checkIndexN (post : Int32 → fh_T → Prop) (w : fh_T) (a1 : Int32) (a2 : Int32) : Prop := ((a1 < 0 → False) ∧ (¬ a1 < 0 → ((a1 < a2 → (post a1 w)) ∧ (¬ a1 < a2 → False))))
set_option maxRecDepth 100000 in
set_option maxHeartbeats 4000000 in
theorem sKXPr_checkIndexN_in {p : Program} {l : Launch} {e : Env} {s : State} {m : MethodId} {args : Array Value} {below : List Frame} {meth : Method} {c : Code} {D : va_G} {ca : Nat → Nat} {A : Nat → Prop} {post : Int32 → fh_T → Prop} (C0 : kCx p s m args meth c D ca A RXPr cXPr_checkIndex 3 (some .int) "checkIndex") : ∀ (w : fh_T) (a1 : Int32) (a2 : Int32), wKXPr_checkIndexN post w a1 a2 → ∀ (H : Heap) (locs : List Loc) (ls : Array Slot), fh_ok D ca A w H → va_S A s.heap H locs → lv_has ls 3 [(0, .int a1), (1, .int a2), (2, .null)] → W p l e ({ frames := 0, cells := 0, slots := 0, locals := 0 } : Room) s m args below meth c H locs 0 0 (MQ below (va_Qi post (fxC (fh_ok D ca A)) A) args s 0 0 A) (F0 m 0 ls []) := by
  obtain ⟨hx, hb, hr, hml, hown, hts, hlocks, hK, hN, hE, hA, hin⟩ := id C0
  intro w a1 a2 h H locs ls hP hS hl
  replace h : ((a1 < 0 → False) ∧ (¬ a1 < 0 → ((a1 < a2 → (post a1 w)) ∧ (¬ a1 < a2 → False)))) := h
  refine lv_iload_n hx hb dXPr_checkIndex_0 rfl (lv_at hl 0 rfl) ?_
  refine lv_if_lt (tgt := 9) hx hb dXPr_checkIndex_1 (by decide) (fun c1 => ?_) (fun c1 => ?_)
  · replace h := h.1 c1
    exact h.elim
  · replace h := h.2 c1
    refine lv_iload_n hx hb dXPr_checkIndex_4 rfl (lv_at hl 0 rfl) ?_
    refine lv_iload_n hx hb dXPr_checkIndex_5 rfl (lv_at hl 1 rfl) ?_
    refine lv_icmp_lt (tgt := 16) hx hb dXPr_checkIndex_6 (by decide) (fun c2 => ?_) (fun c2 => ?_)
    · replace h := h.1 c2
      refine lv_iload_n hx hb dXPr_checkIndex_16 rfl (lv_at hl 0 rfl) ?_
      exact W.iret hx hb hr (fun t ht hW => ⟨⟨_, _, rfl, h, by rw [fxC, ht]; exact hP⟩, hS.F ht⟩) hS.2.2 dXPr_checkIndex_17 hlocks
    · replace h := h.2 c2
      exact h.elim
set_option maxRecDepth 100000 in
set_option maxHeartbeats 4000000 in
theorem cKXPr_checkIndexN {l : Launch} {D : va_G} {ca : Nat → Nat} {A : Nat → Prop} {post : Int32 → fh_T → Prop} {w : fh_T} {a1 : Int32} {a2 : Int32} (h : wKXPr_checkIndexN post w a1 a2) : Met l yXPr_checkIndex (.code yXPr_checkIndex cXPr_checkIndex 3 (some .int) :: lg_tbl) ({ frames := 0, cells := 0, slots := 0, locals := 0 } : Room) (va_Pc [.int a1, .int a2, .null] (kB D ca A w)) (va_Qi post (fxC (fh_ok D ca A)) A) 0 0 A := by
  refine fx_start (by decide +kernel) (Nat.le_of_ble_eq_true rfl) ?_
  intro p e s m below meth c ls hx hb hr hml hown hts hlocks hnm hB hl
  exact sKXPr_checkIndexN_in ⟨hx, hb, hr, hml, hown, hts, hlocks, hB.2.2.1, hB.2.2.2.1, hB.2.2.2.2, hB.2.1, hnm⟩ w a1 a2 h _ _ ls hB.1 va_S.rf hl
def wKXOb_checkIndex (post : Int32 → fh_T → Prop) (w : fh_T) (a1 : Int32) (a2 : Int32) : Prop := (wKXPr_checkIndexN (fun r1 w_1 => (post r1 w_1)) w a1 a2)
set_option maxRecDepth 100000 in
set_option maxHeartbeats 4000000 in
theorem sKXOb_checkIndex_in {p : Program} {l : Launch} {e : Env} {s : State} {m : MethodId} {args : Array Value} {below : List Frame} {meth : Method} {c : Code} {D : va_G} {ca : Nat → Nat} {A : Nat → Prop} {post : Int32 → fh_T → Prop} (C0 : kCx p s m args meth c D ca A RXOb cXOb_checkIndex 2 (some .int) "checkIndex") : ∀ (w : fh_T) (a1 : Int32) (a2 : Int32), wKXOb_checkIndex post w a1 a2 → ∀ (H : Heap) (locs : List Loc) (ls : Array Slot), fh_ok D ca A w H → va_S A s.heap H locs → lv_has ls 2 [(0, .int a1), (1, .int a2)] → W p l e ({ frames := 1, cells := 0, slots := 0, locals := 22 } : Room) s m args below meth c H locs 0 0 (MQ below (va_Qi post (fxC (fh_ok D ca A)) A) args s 0 0 A) (F0 m 0 ls []) := by
  obtain ⟨hx, hb, hr, hml, hown, hts, hlocks, hK, hN, hE, hA, hin⟩ := id C0
  intro w a1 a2 h H locs ls hP hS hl
  replace h : (wKXPr_checkIndexN (fun r1 w_1 => (post r1 w_1)) w a1 a2) := h
  refine lv_iload_n hx hb dXOb_checkIndex_0 rfl (lv_at hl 0 rfl) ?_
  refine lv_iload_n hx hb dXOb_checkIndex_1 rfl (lv_at hl 1 rfl) ?_
  refine lv_null hx hb dXOb_checkIndex_2 ?_
  refine va_calli (va_runS (As := [.int a1, .int a2, .null]) (rest := []) ⟨hx, hb, hml, hown, hts⟩ (cKXPr_checkIndexN h) (gc_XOb_105 hts hN ⟨Nat.le_of_ble_eq_true rfl, Nat.le_of_ble_eq_true rfl⟩) (k_preS hP hS hA hK hN hE) rfl rfl hl.1 rfl (lv_room (Nat.le_of_ble_eq_true rfl)) dXOb_checkIndex_3 ⟨Nat.le_of_ble_eq_true rfl, Nat.le_of_ble_eq_true rfl⟩) hS (fun _ _ q => q) (fun _ q => q) (fun r1 w_1 t H locs ht hvm h hP hz hk hS => ?_)
  rw [fxC, ht] at hP
  exact W.iret hx hb hr (fun t ht hW => ⟨⟨_, _, rfl, h, by rw [fxC, ht]; exact hP⟩, hS.F ht⟩) hS.2.2 dXOb_checkIndex_6 hlocks
set_option maxRecDepth 100000 in
set_option maxHeartbeats 4000000 in
theorem cKXOb_checkIndex {l : Launch} {D : va_G} {ca : Nat → Nat} {A : Nat → Prop} {post : Int32 → fh_T → Prop} {w : fh_T} {a1 : Int32} {a2 : Int32} (h : wKXOb_checkIndex post w a1 a2) : Met l yXOb_checkIndex (.code yXOb_checkIndex cXOb_checkIndex 2 (some .int) :: lg_tbl) ({ frames := 1, cells := 0, slots := 0, locals := 22 } : Room) (va_Pc [.int a1, .int a2] (kB D ca A w)) (va_Qi post (fxC (fh_ok D ca A)) A) 0 0 A := by
  refine fx_start (by decide +kernel) (Nat.le_of_ble_eq_true rfl) ?_
  intro p e s m below meth c ls hx hb hr hml hown hts hlocks hnm hB hl
  exact sKXOb_checkIndex_in ⟨hx, hb, hr, hml, hown, hts, hlocks, hB.2.2.1, hB.2.2.2.1, hB.2.2.2.2, hB.2.1, hnm⟩ w a1 a2 h _ _ ls hB.1 va_S.rf hl
def wKXAL_elementData (post : Option Nat → fh_T → Prop) (w : fh_T) (a0 : Nat) (a1 : Int32) : Prop := (∃ x1, fh_g w a0 9 1 (.ref x1) ∧ (∃ n3 f4 y5, w x1 = some (.inl (3, n3, .inr (.inr (.inr (.inr f4))))) ∧ vp_in a1 n3 ∧ f4 (Int32.toNatClampNeg a1) = some y5 ∧ (post (some y5) w)))
set_option maxRecDepth 100000 in
set_option maxHeartbeats 4000000 in
theorem sKXAL_elementData_in {p : Program} {l : Launch} {e : Env} {s : State} {m : MethodId} {args : Array Value} {below : List Frame} {meth : Method} {c : Code} {D : va_G} {ca : Nat → Nat} {A : Nat → Prop} {post : Option Nat → fh_T → Prop} (C0 : kCx p s m args meth c D ca A RXAL cXAL_elementData 2 (some (.object "java/lang/Object")) "elementData") : ∀ (w : fh_T) (a0 : Nat) (a1 : Int32), wKXAL_elementData post w a0 a1 → ∀ (H : Heap) (locs : List Loc) (ls : Array Slot), fh_ok D ca A w H → va_S A s.heap H locs → lv_has ls 2 [(0, .ref a0), (1, .int a1)] → W p l e ({ frames := 0, cells := 0, slots := 0, locals := 0 } : Room) s m args below meth c H locs 0 0 (MQ below (va_Qe (fun x => x) post (fxC (fh_ok D ca A)) A) args s 0 0 A) (F0 m 0 ls []) := by
  obtain ⟨hx, hb, hr, hml, hown, hts, hlocks, hK, hN, hE, hA, hin⟩ := id C0
  intro w a0 a1 h H locs ls hP hS hl
  replace h : (∃ x1, fh_g w a0 9 1 (.ref x1) ∧ (∃ n3 f4 y5, w x1 = some (.inl (3, n3, .inr (.inr (.inr (.inr f4))))) ∧ vp_in a1 n3 ∧ f4 (Int32.toNatClampNeg a1) = some y5 ∧ (post (some y5) w))) := h
  refine lv_aload_n hx hb dXAL_elementData_0 rfl (lv_at hl 0 rfl) ?_
  obtain ⟨x1, g2, h⟩ := h
  refine kg_XAL_9 hx hb hown hts hN hK hP g2 dXAL_elementData_1 ?_
  refine lv_iload_n hx hb dXAL_elementData_4 rfl (lv_at hl 1 rfl) ?_
  obtain ⟨n3, f4, y5, g6, g7, g8, h⟩ := h
  refine kaa 3 rfl rfl hx hb hK hP g6 g7 g8 dXAL_elementData_5 ?_
  exact W.aret hx hb hr (Or.inl ⟨_, rfl⟩) (Or.inr ⟨_, rfl⟩) (fun t ht hW => ⟨⟨(some y5), _, rfl, h, by rw [fxC, ht]; exact hP⟩, hS.F ht⟩) hS.2.2 dXAL_elementData_6 hlocks
set_option maxRecDepth 100000 in
set_option maxHeartbeats 4000000 in
theorem cKXAL_elementData {l : Launch} {D : va_G} {ca : Nat → Nat} {A : Nat → Prop} {post : Option Nat → fh_T → Prop} {w : fh_T} {a0 : Nat} {a1 : Int32} (h : wKXAL_elementData post w a0 a1) : Met l yXAL_elementData (.code yXAL_elementData cXAL_elementData 2 (some (.object "java/lang/Object")) :: lg_tbl) ({ frames := 0, cells := 0, slots := 0, locals := 0 } : Room) (va_Pc [.ref a0, .int a1] (kB D ca A w)) (va_Qe (fun x => x) post (fxC (fh_ok D ca A)) A) 0 0 A := by
  refine fx_start (by decide +kernel) (Nat.le_of_ble_eq_true rfl) ?_
  intro p e s m below meth c ls hx hb hr hml hown hts hlocks hnm hB hl
  exact sKXAL_elementData_in ⟨hx, hb, hr, hml, hown, hts, hlocks, hB.2.2.1, hB.2.2.2.1, hB.2.2.2.2, hB.2.1, hnm⟩ w a0 a1 h _ _ ls hB.1 va_S.rf hl
def wKXAL_get (post : Option Nat → fh_T → Prop) (w : fh_T) (a0 : Nat) (a1 : Int32) : Prop := (∃ x1, fh_g w a0 9 2 (.int x1) ∧ (wKXOb_checkIndex (fun r3 w_3 => (∃ fs5, w_3 a0 = some (.inr (9, fs5)) ∧ (wKXAL_elementData (fun r4 w_4 => (∃ y7, r4 = some y7 ∧ (post (some y7) w_4))) w_3 a0 a1))) w a1 x1))
set_option maxRecDepth 100000 in
set_option maxHeartbeats 4000000 in
theorem sKXAL_get_in {p : Program} {l : Launch} {e : Env} {s : State} {m : MethodId} {args : Array Value} {below : List Frame} {meth : Method} {c : Code} {D : va_G} {ca : Nat → Nat} {A : Nat → Prop} {post : Option Nat → fh_T → Prop} (C0 : kCx p s m args meth c D ca A RXAL cXAL_get 2 (some (.object "java/lang/Object")) "get") : ∀ (w : fh_T) (a0 : Nat) (a1 : Int32), wKXAL_get post w a0 a1 → ∀ (H : Heap) (locs : List Loc) (ls : Array Slot), fh_ok D ca A w H → va_S A s.heap H locs → lv_has ls 2 [(0, .ref a0), (1, .int a1)] → W p l e ({ frames := 2, cells := 0, slots := 0, locals := 43 } : Room) s m args below meth c H locs 0 0 (MQ below (va_Qe (fun x => x) post (fxC (fh_ok D ca A)) A) args s 0 0 A) (F0 m 0 ls []) := by
  obtain ⟨hx, hb, hr, hml, hown, hts, hlocks, hK, hN, hE, hA, hin⟩ := id C0
  intro w a0 a1 h H locs ls hP hS hl
  replace h : (∃ x1, fh_g w a0 9 2 (.int x1) ∧ (wKXOb_checkIndex (fun r3 w_3 => (∃ fs5, w_3 a0 = some (.inr (9, fs5)) ∧ (wKXAL_elementData (fun r4 w_4 => (∃ y7, r4 = some y7 ∧ (post (some y7) w_4))) w_3 a0 a1))) w a1 x1)) := h
  refine lv_iload_n hx hb dXAL_get_0 rfl (lv_at hl 1 rfl) ?_
  refine lv_aload_n hx hb dXAL_get_1 rfl (lv_at hl 0 rfl) ?_
  obtain ⟨x1, g2, h⟩ := h
  refine kg_XAL_48 hx hb hown hts hN hK hP g2 dXAL_get_2 ?_
  refine va_calli (va_runS (As := [.int a1, .int x1]) (rest := []) ⟨hx, hb, hml, hown, hts⟩ (cKXOb_checkIndex h) (gc_XAL_118 hts hN ⟨Nat.le_of_ble_eq_true rfl, Nat.le_of_ble_eq_true rfl⟩) (k_preS hP hS hA hK hN hE) rfl rfl hl.1 rfl (lv_room (Nat.le_of_ble_eq_true rfl)) dXAL_get_5 ⟨Nat.le_of_ble_eq_true rfl, Nat.le_of_ble_eq_true rfl⟩) hS (fun _ _ q => q) (fun _ q => q) (fun r3 w_3 t H locs ht hvm h hP hz hk hS => ?_)
  rw [fxC, ht] at hP
  refine lv_pop hx hb dXAL_get_8 rfl ?_
  refine lv_aload_n hx hb dXAL_get_9 rfl (lv_at hl 0 rfl) ?_
  refine lv_iload_n hx hb dXAL_get_10 rfl (lv_at hl 1 rfl) ?_
  obtain ⟨fs5, g6, h⟩ := h
  refine va_calle (va_runV (As := [.int a1]) (rest := []) ⟨hx, hb, hml, hown, hts⟩ (cKXAL_elementData h) (gc_XAL_123 hts hN ⟨Nat.le_of_ble_eq_true rfl, Nat.le_of_ble_eq_true rfl⟩) (k_preV g6 rfl hP hS hA hK hN hE) rfl rfl hl.1 rfl (lv_room (Nat.le_of_ble_eq_true rfl)) dXAL_get_11 ⟨Nat.le_of_ble_eq_true rfl, Nat.le_of_ble_eq_true rfl⟩) hS (fun _ _ q => q) (fun _ q => q) (fun r4 w_4 t H locs ht hvm h hP hz hk hS => ?_)
  rw [fxC, ht] at hP
  obtain ⟨y7, e8, h⟩ := h
  subst e8
  exact W.aret hx hb hr (Or.inl ⟨_, rfl⟩) (Or.inr ⟨_, rfl⟩) (fun t ht hW => ⟨⟨(some y7), _, rfl, h, by rw [fxC, ht]; exact hP⟩, hS.F ht⟩) hS.2.2 dXAL_get_14 hlocks
set_option maxRecDepth 100000 in
set_option maxHeartbeats 4000000 in
theorem cKXAL_get {l : Launch} {D : va_G} {ca : Nat → Nat} {A : Nat → Prop} {post : Option Nat → fh_T → Prop} {w : fh_T} {a0 : Nat} {a1 : Int32} (h : wKXAL_get post w a0 a1) : Met l yXAL_get (.code yXAL_get cXAL_get 2 (some (.object "java/lang/Object")) :: lg_tbl) ({ frames := 2, cells := 0, slots := 0, locals := 43 } : Room) (va_Pc [.ref a0, .int a1] (kB D ca A w)) (va_Qe (fun x => x) post (fxC (fh_ok D ca A)) A) 0 0 A := by
  refine fx_start (by decide +kernel) (Nat.le_of_ble_eq_true rfl) ?_
  intro p e s m below meth c ls hx hb hr hml hown hts hlocks hnm hB hl
  exact sKXAL_get_in ⟨hx, hb, hr, hml, hown, hts, hlocks, hB.2.2.1, hB.2.2.2.1, hB.2.2.2.2, hB.2.1, hnm⟩ w a0 a1 h _ _ ls hB.1 va_S.rf hl
def wKXAL_grow2 (post : Option Nat → fh_T → Prop) (w : fh_T) (mc : Nat) (ms : Nat) (a0 : Nat) (a1 : Int32) : Prop := (∃ x1, fh_g w a0 9 1 (.ref x1) ∧ (∃ n3, fh_len w x1 n3 ∧ ((0 < (nI n3) → False) ∧ (¬ 0 < (nI n3) → (∃ x6, fh_g w a0 9 1 (.ref x6) ∧ (∃ q9 z8, w q9 = some (.inl (4, 0, z8)) ∧ ((some x6 = some q9 → (∃ n14 mc15 ms16, ¬ (if 10 < a1 then a1 else 10 : Int32) < 0 ∧ Int32.toNatClampNeg (if 10 < a1 then a1 else 10) = n14 ∧ n14 * 4 ≤ 536870912 ∧ mc = mc15 + 1 ∧ ms = ms16 + n14 ∧ ∀ q12, w q12 = none → ∀ w13, w13 = fh_up w q12 (.inl (3, n14, .inr (.inr (.inr (.inr (fun _ => none)))))) → (∃ fs17, w13 a0 = some (.inr (9, fs17)) ∧ 1 < fs17.length ∧ ∀ w18, w18 = fh_up w13 a0 (.inr (9, fs17.set 1 (.ref q12))) → (post (some q12) w18)))) ∧ (¬ some x6 = some q9 → False))))))))
set_option maxRecDepth 100000 in
set_option maxHeartbeats 4000000 in
theorem sKXAL_grow2_in {p : Program} {l : Launch} {e : Env} {s : State} {m : MethodId} {args : Array Value} {below : List Frame} {meth : Method} {c : Code} {D : va_G} {ca : Nat → Nat} {A : Nat → Prop} {MC MS : Nat} {post : Option Nat → fh_T → Prop} (C0 : kCx p s m args meth c D ca A RXAL cXAL_grow2 4 (some (.array (.object "java/lang/Object"))) "grow") : ∀ (w : fh_T) (mc : Nat) (ms : Nat) (a0 : Nat) (a1 : Int32), wKXAL_grow2 post w mc ms a0 a1 → ∀ (H : Heap) (locs : List Loc) (ls : Array Slot), fh_ok D ca A w H → va_S A s.heap H locs → lv_has ls 4 [(0, .ref a0), (1, .int a1)] → ∀ cells slots : Nat, cells + mc = MC → slots + ms = MS → W p l e ({ frames := 1, cells := MC, slots := MS, locals := 40 } : Room) s m args below meth c H locs cells slots (MQ below (va_Qe (fun x => x) post (fxC (fh_ok D ca A)) A) args s MC MS A) (F0 m 0 ls []) := by
  obtain ⟨hx, hb, hr, hml, hown, hts, hlocks, hK, hN, hE, hA, hin⟩ := id C0
  intro w mc ms a0 a1 h H locs ls hP hS hl cells slots hbc hbs
  replace h : (∃ x1, fh_g w a0 9 1 (.ref x1) ∧ (∃ n3, fh_len w x1 n3 ∧ ((0 < (nI n3) → False) ∧ (¬ 0 < (nI n3) → (∃ x6, fh_g w a0 9 1 (.ref x6) ∧ (∃ q9 z8, w q9 = some (.inl (4, 0, z8)) ∧ ((some x6 = some q9 → (∃ n14 mc15 ms16, ¬ (if 10 < a1 then a1 else 10 : Int32) < 0 ∧ Int32.toNatClampNeg (if 10 < a1 then a1 else 10) = n14 ∧ n14 * 4 ≤ 536870912 ∧ mc = mc15 + 1 ∧ ms = ms16 + n14 ∧ ∀ q12, w q12 = none → ∀ w13, w13 = fh_up w q12 (.inl (3, n14, .inr (.inr (.inr (.inr (fun _ => none)))))) → (∃ fs17, w13 a0 = some (.inr (9, fs17)) ∧ 1 < fs17.length ∧ ∀ w18, w18 = fh_up w13 a0 (.inr (9, fs17.set 1 (.ref q12))) → (post (some q12) w18)))) ∧ (¬ some x6 = some q9 → False)))))))) := h
  refine lv_aload_n hx hb dXAL_grow2_0 rfl (lv_at hl 0 rfl) ?_
  obtain ⟨x1, g2, h⟩ := h
  refine kg_XAL_9 hx hb hown hts hN hK hP g2 dXAL_grow2_1 ?_
  obtain ⟨n3, g4, h⟩ := h
  refine kalO hx hb hK hE hS hP g4 dXAL_grow2_4 ?_
  refine lv_istore_n (lv' := [(2, .int (nI n3)), (0, .ref a0), (1, .int a1)]) hx hb dXAL_grow2_5 rfl hl (by decide) rfl (fun ls hl => ?_)
  refine lv_iload_n hx hb dXAL_grow2_6 rfl (lv_at hl 0 rfl) ?_
  refine lv_if_gt (tgt := 20) hx hb dXAL_grow2_7 (by decide) (fun c5 => ?_) (fun c5 => ?_)
  · replace h := h.1 c5
    exact h.elim
  · replace h := h.2 c5
    refine lv_aload_n hx hb dXAL_grow2_10 rfl (lv_at hl 1 rfl) ?_
    obtain ⟨x6, g7, h⟩ := h
    refine kg_XAL_9 hx hb hown hts hN hK hP g7 dXAL_grow2_11 ?_
    obtain ⟨q9, z8, g10, h⟩ := h
    refine kgs hx hb hown (hts (.fieldLink RXAL 39 "java/util/ArrayList" "DEFAULTCAPACITY_EMPTY_ELEMENTDATA" "[Ljava/lang/Object;") (fx_m (by decide +kernel))) hE hS hP g10 dXAL_grow2_14 ?_
    refine lv_acmp_eq (rx := some x6) (ry := some q9) (tgt := 45) hx hb dXAL_grow2_17 (by decide) (fun c11 => ?_) (fun c11 => ?_)
    · replace h := h.1 c11
      refine lv_aload_n hx hb dXAL_grow2_45 rfl (lv_at hl 1 rfl) ?_
      refine lv_bipush (v := 10) hx hb dXAL_grow2_46 (by decide) ?_
      refine lv_iload_n hx hb dXAL_grow2_48 rfl (lv_at hl 2 rfl) ?_
      refine kmax_XAL_79 hx hb (by rw [hml]; exact hl.1.symm) hown hts (Nat.le_of_ble_eq_true rfl) (Nat.le_of_ble_eq_true rfl) (show cells ≤ MC by omega) (show slots ≤ MS by omega) dXAL_grow2_49 ?_
      obtain ⟨n14, mc15, ms16, hn1, hn2, hn3, hm1, hm2, h⟩ := h
      refine kqnew 3 rfl rfl hx hb hown (hts (.classLink RXAL 7 "java/lang/Object") (fx_m (by decide +kernel))) (hN.use (args := #[]) (w := .arrayOver (.object "java/lang/Object")) (by decide +kernel)) hK hE hP hS hA hn1 hn2 hn3 (show cells + 1 ≤ MC by omega) (show slots + n14 ≤ MS by omega) dXAL_grow2_52 (fun q12 H hq hP hS => ?_)
      obtain ⟨w13, ew13⟩ : ∃ y, y = fh_up w q12 (.inl (3, n14, .inr (.inr (.inr (.inr (fun _ => none)))))) := ⟨_, rfl⟩
      replace h := h q12 hq w13 ew13
      rw [← ew13] at hP
      replace hbc : cells + 1 + mc15 = MC := by omega
      replace hbs : slots + n14 + ms16 = MS := by omega
      refine lv_dup_x1 hx hb dXAL_grow2_55 rfl rfl ?_
      obtain ⟨fs17, g19, g20, h⟩ := h
      obtain ⟨w18, ew18⟩ : ∃ y, y = fh_up w13 a0 (.inr (9, fs17.set 1 (.ref q12))) := ⟨_, rfl⟩
      replace h := h w18 ew18
      refine kp_XAL_9 hx hb hown hts hN hK hP hS g19 g20 dXAL_grow2_56 (fun H locs hP hS => ?_)
      rw [← ew18] at hP
      refine W.widen (k := MC) (n := MS) (by omega) (by omega) ?_
      exact W.aret hx hb hr (Or.inr ⟨_, rfl⟩) (Or.inr ⟨_, rfl⟩) (fun t ht hW => ⟨⟨(some q12), _, rfl, h, by rw [fxC, ht]; exact hP⟩, hS.F ht⟩) hS.2.2 dXAL_grow2_59 hlocks
    · replace h := h.2 c11
      exact h.elim
set_option maxRecDepth 100000 in
set_option maxHeartbeats 4000000 in
theorem cKXAL_grow2 {l : Launch} {D : va_G} {ca : Nat → Nat} {A : Nat → Prop} {post : Option Nat → fh_T → Prop} {w : fh_T} {mc : Nat} {ms : Nat} {a0 : Nat} {a1 : Int32} (h : wKXAL_grow2 post w mc ms a0 a1) : Met l yXAL_grow2 (.code yXAL_grow2 cXAL_grow2 4 (some (.array (.object "java/lang/Object"))) :: lg_tbl) ({ frames := 1, cells := mc, slots := ms, locals := 40 } : Room) (va_Pc [.ref a0, .int a1] (kB D ca A w)) (va_Qe (fun x => x) post (fxC (fh_ok D ca A)) A) mc ms A := by
  refine fx_start (by decide +kernel) (Nat.le_of_ble_eq_true rfl) ?_
  intro p e s m below meth c ls hx hb hr hml hown hts hlocks hnm hB hl
  exact sKXAL_grow2_in ⟨hx, hb, hr, hml, hown, hts, hlocks, hB.2.2.1, hB.2.2.2.1, hB.2.2.2.2, hB.2.1, hnm⟩ w mc ms a0 a1 h _ _ ls hB.1 va_S.rf hl 0 0 (Nat.zero_add _) (Nat.zero_add _)
def wKXAL_grow (post : Option Nat → fh_T → Prop) (w : fh_T) (mc : Nat) (ms : Nat) (a0 : Nat) : Prop := (∃ x1, fh_g w a0 9 2 (.int x1) ∧ (∃ fs4, w a0 = some (.inr (9, fs4)) ∧ (∃ a6 b7 mc8 ms9, mc = mc8 + a6 ∧ ms = ms9 + b7 ∧ (wKXAL_grow2 (fun r3 w_3 => (∃ y10, r3 = some y10 ∧ (post (some y10) w_3))) w a6 b7 a0 (x1 + 1)))))
set_option maxRecDepth 100000 in
set_option maxHeartbeats 4000000 in
theorem sKXAL_grow_in {p : Program} {l : Launch} {e : Env} {s : State} {m : MethodId} {args : Array Value} {below : List Frame} {meth : Method} {c : Code} {D : va_G} {ca : Nat → Nat} {A : Nat → Prop} {MC MS : Nat} {post : Option Nat → fh_T → Prop} (C0 : kCx p s m args meth c D ca A RXAL cXAL_grow 1 (some (.array (.object "java/lang/Object"))) "grow") : ∀ (w : fh_T) (mc : Nat) (ms : Nat) (a0 : Nat), wKXAL_grow post w mc ms a0 → ∀ (H : Heap) (locs : List Loc) (ls : Array Slot), fh_ok D ca A w H → va_S A s.heap H locs → lv_has ls 1 [(0, .ref a0)] → ∀ cells slots : Nat, cells + mc = MC → slots + ms = MS → W p l e ({ frames := 2, cells := MC, slots := MS, locals := 63 } : Room) s m args below meth c H locs cells slots (MQ below (va_Qe (fun x => x) post (fxC (fh_ok D ca A)) A) args s MC MS A) (F0 m 0 ls []) := by
  obtain ⟨hx, hb, hr, hml, hown, hts, hlocks, hK, hN, hE, hA, hin⟩ := id C0
  intro w mc ms a0 h H locs ls hP hS hl cells slots hbc hbs
  replace h : (∃ x1, fh_g w a0 9 2 (.int x1) ∧ (∃ fs4, w a0 = some (.inr (9, fs4)) ∧ (∃ a6 b7 mc8 ms9, mc = mc8 + a6 ∧ ms = ms9 + b7 ∧ (wKXAL_grow2 (fun r3 w_3 => (∃ y10, r3 = some y10 ∧ (post (some y10) w_3))) w a6 b7 a0 (x1 + 1))))) := h
  refine lv_aload_n hx hb dXAL_grow_0 rfl (lv_at hl 0 rfl) ?_
  refine lv_aload_n hx hb dXAL_grow_1 rfl (lv_at hl 0 rfl) ?_
  obtain ⟨x1, g2, h⟩ := h
  refine kg_XAL_48 hx hb hown hts hN hK hP g2 dXAL_grow_2 ?_
  refine lv_iconst (v := 1) hx hb dXAL_grow_5 (by decide) ?_
  refine lv_iadd hx hb dXAL_grow_6 ?_
  obtain ⟨fs4, g5, h⟩ := h
  obtain ⟨a6, b7, mc8, ms9, hm1, hm2, h⟩ := h
  refine va_calle (va_runV (As := [.int (x1 + 1)]) (rest := []) ⟨hx, hb, hml, hown, hts⟩ (cKXAL_grow2 h) (gc_XAL_69 hts hN ⟨Nat.le_of_ble_eq_true rfl, Nat.le_of_ble_eq_true rfl⟩) (k_preV g5 rfl hP hS hA hK hN hE) rfl rfl hl.1 rfl (lv_room (Nat.le_of_ble_eq_true rfl)) dXAL_grow_7 ⟨show cells + a6 ≤ MC by omega, show slots + b7 ≤ MS by omega⟩) hS (fun _ _ q => q) (fun _ q => q) (fun r3 w_3 t H locs ht hvm h hP hz hk hS => ?_)
  rw [fxC, ht] at hP
  refine W.cs (cells' := cells + a6) (slots' := slots + b7) rfl rfl ?_
  replace hbc : cells + a6 + mc8 = MC := by omega
  replace hbs : slots + b7 + ms9 = MS := by omega
  obtain ⟨y10, e11, h⟩ := h
  subst e11
  refine W.widen (k := MC) (n := MS) (by omega) (by omega) ?_
  exact W.aret hx hb hr (Or.inr ⟨_, rfl⟩) (Or.inr ⟨_, rfl⟩) (fun t ht hW => ⟨⟨(some y10), _, rfl, h, by rw [fxC, ht]; exact hP⟩, hS.F ht⟩) hS.2.2 dXAL_grow_10 hlocks
set_option maxRecDepth 100000 in
set_option maxHeartbeats 4000000 in
theorem cKXAL_grow {l : Launch} {D : va_G} {ca : Nat → Nat} {A : Nat → Prop} {post : Option Nat → fh_T → Prop} {w : fh_T} {mc : Nat} {ms : Nat} {a0 : Nat} (h : wKXAL_grow post w mc ms a0) : Met l yXAL_grow (.code yXAL_grow cXAL_grow 1 (some (.array (.object "java/lang/Object"))) :: lg_tbl) ({ frames := 2, cells := mc, slots := ms, locals := 63 } : Room) (va_Pc [.ref a0] (kB D ca A w)) (va_Qe (fun x => x) post (fxC (fh_ok D ca A)) A) mc ms A := by
  refine fx_start (by decide +kernel) (Nat.le_of_ble_eq_true rfl) ?_
  intro p e s m below meth c ls hx hb hr hml hown hts hlocks hnm hB hl
  exact sKXAL_grow_in ⟨hx, hb, hr, hml, hown, hts, hlocks, hB.2.2.1, hB.2.2.2.1, hB.2.2.2.2, hB.2.1, hnm⟩ w mc ms a0 h _ _ ls hB.1 va_S.rf hl 0 0 (Nat.zero_add _) (Nat.zero_add _)
def wKXAL_add2_11 (post : fh_T → Prop) (w : fh_T) (mc : Nat) (ms : Nat) (v0 : Nat) (v1 : Nat) (v2 : Nat) (v3 : Int32) : Prop := (∃ n13 f14 fs18, w v2 = some (.inl (3, n13, .inr (.inr (.inr (.inr f14))))) ∧ w v1 = some (.inr (5, fs18)) ∧ vp_in v3 n13 ∧ ∀ w17, w17 = fh_up w v2 (.inl (3, n13, .inr (.inr (.inr (.inr (va_up f14 (Int32.toNatClampNeg v3) (some v1))))))) → (∃ fs20, w17 v0 = some (.inr (9, fs20)) ∧ 2 < fs20.length ∧ ∀ w21, w21 = fh_up w17 v0 (.inr (9, fs20.set 2 (.int (v3 + 1)))) → (post w21)))
def wKXAL_add2 (post : fh_T → Prop) (w : fh_T) (mc : Nat) (ms : Nat) (a0 : Nat) (a1 : Nat) (a2 : Nat) (a3 : Int32) : Prop := (∃ n1, fh_len w a2 n1 ∧ ((¬ a3 = (nI n1) → (wKXAL_add2_11 post  w mc ms a0 a1 a2 a3)) ∧ (a3 = (nI n1) → (∃ fs5, w a0 = some (.inr (9, fs5)) ∧ (∃ a7 b8 mc9 ms10, mc = mc9 + a7 ∧ ms = ms10 + b8 ∧ (wKXAL_grow (fun r4 w_4 => (∃ y11, r4 = some y11 ∧ (wKXAL_add2_11 post  w_4 mc9 ms10 a0 a1 y11 a3))) w a7 b8 a0))))))
set_option maxRecDepth 100000 in
set_option maxHeartbeats 4000000 in
theorem sKXAL_add2_11 {p : Program} {l : Launch} {e : Env} {s : State} {m : MethodId} {args : Array Value} {below : List Frame} {meth : Method} {c : Code} {D : va_G} {ca : Nat → Nat} {A : Nat → Prop} {MC MS : Nat} {post : fh_T → Prop} (C0 : kCx p s m args meth c D ca A RXAL cXAL_add2 4 none "add") : ∀ (w : fh_T) (mc : Nat) (ms : Nat) (v0 : Nat) (v1 : Nat) (v2 : Nat) (v3 : Int32), wKXAL_add2_11 post  w mc ms v0 v1 v2 v3 → ∀ (H : Heap) (locs : List Loc) (ls : Array Slot), fh_ok D ca A w H → va_S A s.heap H locs → lv_has ls 4 [(0, .ref v0), (1, .ref v1), (2, .ref v2), (3, .int v3)] → ∀ cells slots : Nat, cells + mc = MC → slots + ms = MS → W p l e ({ frames := 3, cells := MC, slots := MS, locals := 83 } : Room) s m args below meth c H locs cells slots (MQ below (va_Qv post (fxC (fh_ok D ca A)) A) args s MC MS A) (F0 m 11 ls []) := by
  obtain ⟨hx, hb, hr, hml, hown, hts, hlocks, hK, hN, hE, hA, hin⟩ := id C0
  intro w mc ms v0 v1 v2 v3 h H locs ls hP hS hl cells slots hbc hbs
  replace h : (∃ n13 f14 fs18, w v2 = some (.inl (3, n13, .inr (.inr (.inr (.inr f14))))) ∧ w v1 = some (.inr (5, fs18)) ∧ vp_in v3 n13 ∧ ∀ w17, w17 = fh_up w v2 (.inl (3, n13, .inr (.inr (.inr (.inr (va_up f14 (Int32.toNatClampNeg v3) (some v1))))))) → (∃ fs20, w17 v0 = some (.inr (9, fs20)) ∧ 2 < fs20.length ∧ ∀ w21, w21 = fh_up w17 v0 (.inr (9, fs20.set 2 (.int (v3 + 1)))) → (post w21))) := h
  refine lv_aload_n hx hb dXAL_add2_11 rfl (lv_at hl 2 rfl) ?_
  refine lv_iload_n hx hb dXAL_add2_12 rfl (lv_at hl 3 rfl) ?_
  refine lv_aload_n hx hb dXAL_add2_13 rfl (lv_at hl 1 rfl) ?_
  obtain ⟨n13, f14, fs18, g15, g19, g16, h⟩ := h
  obtain ⟨w17, ew17⟩ : ∃ y, y = fh_up w v2 (.inl (3, n13, .inr (.inr (.inr (.inr (va_up f14 (Int32.toNatClampNeg v3) (some v1))))))) := ⟨_, rfl⟩
  replace h := h w17 ew17
  refine kasO hx hb hN hK hP hS g15 g19 g16 dXAL_add2_14 (fun H locs hP hS => ?_)
  rw [← ew17] at hP
  refine lv_aload_n hx hb dXAL_add2_15 rfl (lv_at hl 0 rfl) ?_
  refine lv_iload_n hx hb dXAL_add2_16 rfl (lv_at hl 3 rfl) ?_
  refine lv_iconst (v := 1) hx hb dXAL_add2_17 (by decide) ?_
  refine lv_iadd hx hb dXAL_add2_18 ?_
  obtain ⟨fs20, g22, g23, h⟩ := h
  obtain ⟨w21, ew21⟩ : ∃ y, y = fh_up w17 v0 (.inr (9, fs20.set 2 (.int (v3 + 1)))) := ⟨_, rfl⟩
  replace h := h w21 ew21
  refine kp_XAL_48 hx hb hown hts hN hK hP hS g22 g23 dXAL_add2_19 (fun H locs hP hS => ?_)
  rw [← ew21] at hP
  refine W.widen (k := MC) (n := MS) (by omega) (by omega) ?_
  exact W.vret hx hb hr (fun t ht hW => ⟨⟨_, rfl, h, by rw [fxC, ht]; exact hP⟩, hS.F ht⟩) hS.2.2 dXAL_add2_22 hlocks
set_option maxRecDepth 100000 in
set_option maxHeartbeats 4000000 in
theorem sKXAL_add2_in {p : Program} {l : Launch} {e : Env} {s : State} {m : MethodId} {args : Array Value} {below : List Frame} {meth : Method} {c : Code} {D : va_G} {ca : Nat → Nat} {A : Nat → Prop} {MC MS : Nat} {post : fh_T → Prop} (C0 : kCx p s m args meth c D ca A RXAL cXAL_add2 4 none "add") : ∀ (w : fh_T) (mc : Nat) (ms : Nat) (a0 : Nat) (a1 : Nat) (a2 : Nat) (a3 : Int32), wKXAL_add2 post w mc ms a0 a1 a2 a3 → ∀ (H : Heap) (locs : List Loc) (ls : Array Slot), fh_ok D ca A w H → va_S A s.heap H locs → lv_has ls 4 [(0, .ref a0), (1, .ref a1), (2, .ref a2), (3, .int a3)] → ∀ cells slots : Nat, cells + mc = MC → slots + ms = MS → W p l e ({ frames := 3, cells := MC, slots := MS, locals := 83 } : Room) s m args below meth c H locs cells slots (MQ below (va_Qv post (fxC (fh_ok D ca A)) A) args s MC MS A) (F0 m 0 ls []) := by
  obtain ⟨hx, hb, hr, hml, hown, hts, hlocks, hK, hN, hE, hA, hin⟩ := id C0
  intro w mc ms a0 a1 a2 a3 h H locs ls hP hS hl cells slots hbc hbs
  replace h : (∃ n1, fh_len w a2 n1 ∧ ((¬ a3 = (nI n1) → (wKXAL_add2_11 post  w mc ms a0 a1 a2 a3)) ∧ (a3 = (nI n1) → (∃ fs5, w a0 = some (.inr (9, fs5)) ∧ (∃ a7 b8 mc9 ms10, mc = mc9 + a7 ∧ ms = ms10 + b8 ∧ (wKXAL_grow (fun r4 w_4 => (∃ y11, r4 = some y11 ∧ (wKXAL_add2_11 post  w_4 mc9 ms10 a0 a1 y11 a3))) w a7 b8 a0)))))) := h
  refine lv_iload_n hx hb dXAL_add2_0 rfl (lv_at hl 3 rfl) ?_
  refine lv_aload_n hx hb dXAL_add2_1 rfl (lv_at hl 2 rfl) ?_
  obtain ⟨n1, g2, h⟩ := h
  refine kalO hx hb hK hE hS hP g2 dXAL_add2_2 ?_
  refine lv_icmp_ne (tgt := 11) hx hb dXAL_add2_3 (by decide) (fun c3 => ?_) (fun c3 => ?_)
  · replace h := h.1 c3
    exact sKXAL_add2_11  C0  w mc ms a0 a1 a2 a3 h H locs ls hP hS (lv_sub hl [0, 1, 2, 3] rfl) _ _ hbc hbs
  · replace h := h.2 c3
    refine lv_aload_n hx hb dXAL_add2_6 rfl (lv_at hl 0 rfl) ?_
    obtain ⟨fs5, g6, h⟩ := h
    obtain ⟨a7, b8, mc9, ms10, hm1, hm2, h⟩ := h
    refine va_calle (va_runV (As := []) (rest := []) ⟨hx, hb, hml, hown, hts⟩ (cKXAL_grow h) (gc_XAL_129 hts hN ⟨Nat.le_of_ble_eq_true rfl, Nat.le_of_ble_eq_true rfl⟩) (k_preV g6 rfl hP hS hA hK hN hE) rfl rfl hl.1 rfl (lv_room (Nat.le_of_ble_eq_true rfl)) dXAL_add2_7 ⟨show cells + a7 ≤ MC by omega, show slots + b8 ≤ MS by omega⟩) hS (fun _ _ q => q) (fun _ q => q) (fun r4 w_4 t H locs ht hvm h hP hz hk hS => ?_)
    rw [fxC, ht] at hP
    refine W.cs (cells' := cells + a7) (slots' := slots + b8) rfl rfl ?_
    replace hbc : cells + a7 + mc9 = MC := by omega
    replace hbs : slots + b8 + ms10 = MS := by omega
    obtain ⟨y11, e12, h⟩ := h
    subst e12
    refine lv_astore_n (lv' := [(2, .ref y11), (0, .ref a0), (1, .ref a1), (3, .int a3)]) hx hb dXAL_add2_10 rfl hl (by decide) rfl (fun ls hl => ?_)
    exact sKXAL_add2_11  C0  w_4 mc9 ms10 a0 a1 y11 a3 h H locs ls hP hS (lv_sub hl [1, 2, 0, 3] rfl) _ _ hbc hbs
set_option maxRecDepth 100000 in
set_option maxHeartbeats 4000000 in
theorem cKXAL_add2 {l : Launch} {D : va_G} {ca : Nat → Nat} {A : Nat → Prop} {post : fh_T → Prop} {w : fh_T} {mc : Nat} {ms : Nat} {a0 : Nat} {a1 : Nat} {a2 : Nat} {a3 : Int32} (h : wKXAL_add2 post w mc ms a0 a1 a2 a3) : Met l yXAL_add2 (.code yXAL_add2 cXAL_add2 4 none :: lg_tbl) ({ frames := 3, cells := mc, slots := ms, locals := 83 } : Room) (va_Pc [.ref a0, .ref a1, .ref a2, .int a3] (kB D ca A w)) (va_Qv post (fxC (fh_ok D ca A)) A) mc ms A := by
  refine fx_start (by decide +kernel) (Nat.le_of_ble_eq_true rfl) ?_
  intro p e s m below meth c ls hx hb hr hml hown hts hlocks hnm hB hl
  exact sKXAL_add2_in ⟨hx, hb, hr, hml, hown, hts, hlocks, hB.2.2.1, hB.2.2.2.1, hB.2.2.2.2, hB.2.1, hnm⟩ w mc ms a0 a1 a2 a3 h _ _ ls hB.1 va_S.rf hl 0 0 (Nat.zero_add _) (Nat.zero_add _)
def wKXAL_add (post : Int32 → fh_T → Prop) (w : fh_T) (mc : Nat) (ms : Nat) (a0 : Nat) (a1 : Nat) : Prop := (∃ x1, fh_g w a0 9 0 (.int x1) ∧ (∃ fs3, w a0 = some (.inr (9, fs3)) ∧ 0 < fs3.length ∧ ∀ w4, w4 = fh_up w a0 (.inr (9, fs3.set 0 (.int (x1 + 1)))) → (∃ x7, fh_g w4 a0 9 1 (.ref x7) ∧ (∃ x9, fh_g w4 a0 9 2 (.int x9) ∧ (∃ fs12, w4 a0 = some (.inr (9, fs12)) ∧ (∃ a14 b15 mc16 ms17, mc = mc16 + a14 ∧ ms = ms17 + b15 ∧ (wKXAL_add2 (fun w_11 => (post 1 w_11)) w4 a14 b15 a0 a1 x7 x9)))))))
set_option maxRecDepth 100000 in
set_option maxHeartbeats 4000000 in
theorem sKXAL_add_in {p : Program} {l : Launch} {e : Env} {s : State} {m : MethodId} {args : Array Value} {below : List Frame} {meth : Method} {c : Code} {D : va_G} {ca : Nat → Nat} {A : Nat → Prop} {MC MS : Nat} {post : Int32 → fh_T → Prop} (C0 : kCx p s m args meth c D ca A RXAL cXAL_add 2 (some .boolean) "add") : ∀ (w : fh_T) (mc : Nat) (ms : Nat) (a0 : Nat) (a1 : Nat), wKXAL_add post w mc ms a0 a1 → ∀ (H : Heap) (locs : List Loc) (ls : Array Slot), fh_ok D ca A w H → va_S A s.heap H locs → lv_has ls 2 [(0, .ref a0), (1, .ref a1)] → ∀ cells slots : Nat, cells + mc = MC → slots + ms = MS → W p l e ({ frames := 4, cells := MC, slots := MS, locals := 106 } : Room) s m args below meth c H locs cells slots (MQ below (va_Qi post (fxC (fh_ok D ca A)) A) args s MC MS A) (F0 m 0 ls []) := by
  obtain ⟨hx, hb, hr, hml, hown, hts, hlocks, hK, hN, hE, hA, hin⟩ := id C0
  intro w mc ms a0 a1 h H locs ls hP hS hl cells slots hbc hbs
  replace h : (∃ x1, fh_g w a0 9 0 (.int x1) ∧ (∃ fs3, w a0 = some (.inr (9, fs3)) ∧ 0 < fs3.length ∧ ∀ w4, w4 = fh_up w a0 (.inr (9, fs3.set 0 (.int (x1 + 1)))) → (∃ x7, fh_g w4 a0 9 1 (.ref x7) ∧ (∃ x9, fh_g w4 a0 9 2 (.int x9) ∧ (∃ fs12, w4 a0 = some (.inr (9, fs12)) ∧ (∃ a14 b15 mc16 ms17, mc = mc16 + a14 ∧ ms = ms17 + b15 ∧ (wKXAL_add2 (fun w_11 => (post 1 w_11)) w4 a14 b15 a0 a1 x7 x9))))))) := h
  refine lv_aload_n hx hb dXAL_add_0 rfl (lv_at hl 0 rfl) ?_
  refine lv_dup hx hb dXAL_add_1 rfl ?_
  obtain ⟨x1, g2, h⟩ := h
  refine kg_XAL_63 hx hb hown hts hN hK hP g2 dXAL_add_2 ?_
  refine lv_iconst (v := 1) hx hb dXAL_add_5 (by decide) ?_
  refine lv_iadd hx hb dXAL_add_6 ?_
  obtain ⟨fs3, g5, g6, h⟩ := h
  obtain ⟨w4, ew4⟩ : ∃ y, y = fh_up w a0 (.inr (9, fs3.set 0 (.int (x1 + 1)))) := ⟨_, rfl⟩
  replace h := h w4 ew4
  refine kp_XAL_63 hx hb hown hts hN hK hP hS g5 g6 dXAL_add_7 (fun H locs hP hS => ?_)
  rw [← ew4] at hP
  refine lv_aload_n hx hb dXAL_add_10 rfl (lv_at hl 0 rfl) ?_
  refine lv_aload_n hx hb dXAL_add_11 rfl (lv_at hl 1 rfl) ?_
  refine lv_aload_n hx hb dXAL_add_12 rfl (lv_at hl 0 rfl) ?_
  obtain ⟨x7, g8, h⟩ := h
  refine kg_XAL_9 hx hb hown hts hN hK hP g8 dXAL_add_13 ?_
  refine lv_aload_n hx hb dXAL_add_16 rfl (lv_at hl 0 rfl) ?_
  obtain ⟨x9, g10, h⟩ := h
  refine kg_XAL_48 hx hb hown hts hN hK hP g10 dXAL_add_17 ?_
  obtain ⟨fs12, g13, h⟩ := h
  obtain ⟨a14, b15, mc16, ms17, hm1, hm2, h⟩ := h
  refine va_callv (va_runV (As := [.ref a1, .ref x7, .int x9]) (rest := []) ⟨hx, hb, hml, hown, hts⟩ (cKXAL_add2 h) (gc_XAL_131 hts hN ⟨Nat.le_of_ble_eq_true rfl, Nat.le_of_ble_eq_true rfl⟩) (k_preV g13 rfl hP hS hA hK hN hE) rfl rfl hl.1 rfl (lv_room (Nat.le_of_ble_eq_true rfl)) dXAL_add_20 ⟨show cells + a14 ≤ MC by omega, show slots + b15 ≤ MS by omega⟩) hS (fun _ _ q => q) (fun _ q => q) (fun w_11 t H locs ht hvm h hP hz hk hS => ?_)
  rw [fxC, ht] at hP
  refine W.cs (cells' := cells + a14) (slots' := slots + b15) rfl rfl ?_
  replace hbc : cells + a14 + mc16 = MC := by omega
  replace hbs : slots + b15 + ms17 = MS := by omega
  refine lv_iconst (v := 1) hx hb dXAL_add_23 (by decide) ?_
  refine W.widen (k := MC) (n := MS) (by omega) (by omega) ?_
  exact W.zret hx hb hr rfl (fun t ht hW => ⟨⟨_, _, rfl, h, by rw [fxC, ht]; exact hP⟩, hS.F ht⟩) hS.2.2 dXAL_add_24 hlocks
set_option maxRecDepth 100000 in
set_option maxHeartbeats 4000000 in
theorem cKXAL_add {l : Launch} {D : va_G} {ca : Nat → Nat} {A : Nat → Prop} {post : Int32 → fh_T → Prop} {w : fh_T} {mc : Nat} {ms : Nat} {a0 : Nat} {a1 : Nat} (h : wKXAL_add post w mc ms a0 a1) : Met l yXAL_add (.code yXAL_add cXAL_add 2 (some .boolean) :: lg_tbl) ({ frames := 4, cells := mc, slots := ms, locals := 106 } : Room) (va_Pc [.ref a0, .ref a1] (kB D ca A w)) (va_Qi post (fxC (fh_ok D ca A)) A) mc ms A := by
  refine fx_start (by decide +kernel) (Nat.le_of_ble_eq_true rfl) ?_
  intro p e s m below meth c ls hx hb hr hml hown hts hlocks hnm hB hl
  exact sKXAL_add_in ⟨hx, hb, hr, hml, hown, hts, hlocks, hB.2.2.1, hB.2.2.2.1, hB.2.2.2.2, hB.2.1, hnm⟩ w mc ms a0 a1 h _ _ ls hB.1 va_S.rf hl 0 0 (Nat.zero_add _) (Nat.zero_add _)
def wKXAL_fastRemove_34 (post : fh_T → Prop) (w : fh_T) (v0 : Nat) (v1 : Nat) (v3 : Int32) : Prop := (∃ fs14, w v0 = some (.inr (9, fs14)) ∧ 2 < fs14.length ∧ ∀ w15, w15 = fh_up w v0 (.inr (9, fs14.set 2 (.int v3))) → (∃ n18 f19, w15 v1 = some (.inl (3, n18, .inr (.inr (.inr (.inr f19))))) ∧ vp_in v3 n18 ∧ ∀ w22, w22 = fh_up w15 v1 (.inl (3, n18, .inr (.inr (.inr (.inr (va_up f19 (Int32.toNatClampNeg v3) none)))))) → (post w22)))
def wKXAL_fastRemove (post : fh_T → Prop) (w : fh_T) (a0 : Nat) (a1 : Nat) (a2 : Int32) : Prop := (∃ x1, fh_g w a0 9 0 (.int x1) ∧ (∃ fs3, w a0 = some (.inr (9, fs3)) ∧ 0 < fs3.length ∧ ∀ w4, w4 = fh_up w a0 (.inr (9, fs3.set 0 (.int (x1 + 1)))) → (∃ x7, fh_g w4 a0 9 2 (.int x7) ∧ (((x7 - 1) ≤ a2 → (wKXAL_fastRemove_34 post  w4 a0 a1 (x7 - 1))) ∧ (¬ (x7 - 1) ≤ a2 → (∃ n11 f12, w4 a1 = some (.inl (3, n11, .inr (.inr (.inr (.inr f12))))) ∧ ¬ (a2 + 1 : Int32) < 0 ∧ ¬ (a2 : Int32) < 0 ∧ ¬ ((x7 - 1) - a2 : Int32) < 0 ∧ (Int32.toNatClampNeg (a2 + 1)) + (Int32.toNatClampNeg ((x7 - 1) - a2)) ≤ n11 ∧ (Int32.toNatClampNeg a2) + (Int32.toNatClampNeg ((x7 - 1) - a2)) ≤ n11 ∧ (∀ i : Nat, i < (Int32.toNatClampNeg ((x7 - 1) - a2)) → ∀ y : Nat, f12 ((Int32.toNatClampNeg (a2 + 1)) + i) = some y → ∃ fs : List Value, w4 y = some (.inr (5, fs))) ∧ ∀ w10, w10 = fh_up w4 a1 (.inl (3, n11, .inr (.inr (.inr (.inr (va_cpy f12 f12 (Int32.toNatClampNeg (a2 + 1)) (Int32.toNatClampNeg a2) (Int32.toNatClampNeg ((x7 - 1) - a2)))))))) → (wKXAL_fastRemove_34 post  w10 a0 a1 (x7 - 1))))))))
set_option maxRecDepth 100000 in
set_option maxHeartbeats 4000000 in
theorem sKXAL_fastRemove_34 {p : Program} {l : Launch} {e : Env} {s : State} {m : MethodId} {args : Array Value} {below : List Frame} {meth : Method} {c : Code} {D : va_G} {ca : Nat → Nat} {A : Nat → Prop} {post : fh_T → Prop} (C0 : kCx p s m args meth c D ca A RXAL cXAL_fastRemove 4 none "fastRemove") : ∀ (w : fh_T) (v0 : Nat) (v1 : Nat) (v3 : Int32), wKXAL_fastRemove_34 post  w v0 v1 v3 → ∀ (H : Heap) (locs : List Loc) (ls : Array Slot), fh_ok D ca A w H → va_S A s.heap H locs → lv_has ls 4 [(0, .ref v0), (1, .ref v1), (3, .int v3)] → W p l e ({ frames := 1, cells := 0, slots := 0, locals := 40 } : Room) s m args below meth c H locs 0 0 (MQ below (va_Qv post (fxC (fh_ok D ca A)) A) args s 0 0 A) (F0 m 34 ls []) := by
  obtain ⟨hx, hb, hr, hml, hown, hts, hlocks, hK, hN, hE, hA, hin⟩ := id C0
  intro w v0 v1 v3 h H locs ls hP hS hl
  replace h : (∃ fs14, w v0 = some (.inr (9, fs14)) ∧ 2 < fs14.length ∧ ∀ w15, w15 = fh_up w v0 (.inr (9, fs14.set 2 (.int v3))) → (∃ n18 f19, w15 v1 = some (.inl (3, n18, .inr (.inr (.inr (.inr f19))))) ∧ vp_in v3 n18 ∧ ∀ w22, w22 = fh_up w15 v1 (.inl (3, n18, .inr (.inr (.inr (.inr (va_up f19 (Int32.toNatClampNeg v3) none)))))) → (post w22))) := h
  refine lv_aload_n hx hb dXAL_fastRemove_34 rfl (lv_at hl 1 rfl) ?_
  refine lv_aload_n hx hb dXAL_fastRemove_35 rfl (lv_at hl 0 rfl) ?_
  refine lv_iload_n hx hb dXAL_fastRemove_36 rfl (lv_at hl 2 rfl) ?_
  refine lv_dup_x1 hx hb dXAL_fastRemove_37 rfl rfl ?_
  obtain ⟨fs14, g16, g17, h⟩ := h
  obtain ⟨w15, ew15⟩ : ∃ y, y = fh_up w v0 (.inr (9, fs14.set 2 (.int v3))) := ⟨_, rfl⟩
  replace h := h w15 ew15
  refine kp_XAL_48 hx hb hown hts hN hK hP hS g16 g17 dXAL_fastRemove_38 (fun H locs hP hS => ?_)
  rw [← ew15] at hP
  refine lv_null hx hb dXAL_fastRemove_41 ?_
  obtain ⟨n18, f19, g20, g21, h⟩ := h
  obtain ⟨w22, ew22⟩ : ∃ y, y = fh_up w15 v1 (.inl (3, n18, .inr (.inr (.inr (.inr (va_up f19 (Int32.toNatClampNeg v3) none)))))) := ⟨_, rfl⟩
  replace h := h w22 ew22
  refine kan 3 rfl rfl hx hb hK hP hS g20 g21 dXAL_fastRemove_42 (fun H locs hP hS => ?_)
  rw [← ew22] at hP
  exact W.vret hx hb hr (fun t ht hW => ⟨⟨_, rfl, h, by rw [fxC, ht]; exact hP⟩, hS.F ht⟩) hS.2.2 dXAL_fastRemove_43 hlocks
set_option maxRecDepth 100000 in
set_option maxHeartbeats 4000000 in
theorem sKXAL_fastRemove_in {p : Program} {l : Launch} {e : Env} {s : State} {m : MethodId} {args : Array Value} {below : List Frame} {meth : Method} {c : Code} {D : va_G} {ca : Nat → Nat} {A : Nat → Prop} {post : fh_T → Prop} (C0 : kCx p s m args meth c D ca A RXAL cXAL_fastRemove 4 none "fastRemove") : ∀ (w : fh_T) (a0 : Nat) (a1 : Nat) (a2 : Int32), wKXAL_fastRemove post w a0 a1 a2 → ∀ (H : Heap) (locs : List Loc) (ls : Array Slot), fh_ok D ca A w H → va_S A s.heap H locs → lv_has ls 4 [(0, .ref a0), (1, .ref a1), (2, .int a2)] → W p l e ({ frames := 1, cells := 0, slots := 0, locals := 40 } : Room) s m args below meth c H locs 0 0 (MQ below (va_Qv post (fxC (fh_ok D ca A)) A) args s 0 0 A) (F0 m 0 ls []) := by
  obtain ⟨hx, hb, hr, hml, hown, hts, hlocks, hK, hN, hE, hA, hin⟩ := id C0
  intro w a0 a1 a2 h H locs ls hP hS hl
  replace h : (∃ x1, fh_g w a0 9 0 (.int x1) ∧ (∃ fs3, w a0 = some (.inr (9, fs3)) ∧ 0 < fs3.length ∧ ∀ w4, w4 = fh_up w a0 (.inr (9, fs3.set 0 (.int (x1 + 1)))) → (∃ x7, fh_g w4 a0 9 2 (.int x7) ∧ (((x7 - 1) ≤ a2 → (wKXAL_fastRemove_34 post  w4 a0 a1 (x7 - 1))) ∧ (¬ (x7 - 1) ≤ a2 → (∃ n11 f12, w4 a1 = some (.inl (3, n11, .inr (.inr (.inr (.inr f12))))) ∧ ¬ (a2 + 1 : Int32) < 0 ∧ ¬ (a2 : Int32) < 0 ∧ ¬ ((x7 - 1) - a2 : Int32) < 0 ∧ (Int32.toNatClampNeg (a2 + 1)) + (Int32.toNatClampNeg ((x7 - 1) - a2)) ≤ n11 ∧ (Int32.toNatClampNeg a2) + (Int32.toNatClampNeg ((x7 - 1) - a2)) ≤ n11 ∧ (∀ i : Nat, i < (Int32.toNatClampNeg ((x7 - 1) - a2)) → ∀ y : Nat, f12 ((Int32.toNatClampNeg (a2 + 1)) + i) = some y → ∃ fs : List Value, w4 y = some (.inr (5, fs))) ∧ ∀ w10, w10 = fh_up w4 a1 (.inl (3, n11, .inr (.inr (.inr (.inr (va_cpy f12 f12 (Int32.toNatClampNeg (a2 + 1)) (Int32.toNatClampNeg a2) (Int32.toNatClampNeg ((x7 - 1) - a2)))))))) → (wKXAL_fastRemove_34 post  w10 a0 a1 (x7 - 1)))))))) := h
  refine lv_aload_n hx hb dXAL_fastRemove_0 rfl (lv_at hl 0 rfl) ?_
  refine lv_dup hx hb dXAL_fastRemove_1 rfl ?_
  obtain ⟨x1, g2, h⟩ := h
  refine kg_XAL_63 hx hb hown hts hN hK hP g2 dXAL_fastRemove_2 ?_
  refine lv_iconst (v := 1) hx hb dXAL_fastRemove_5 (by decide) ?_
  refine lv_iadd hx hb dXAL_fastRemove_6 ?_
  obtain ⟨fs3, g5, g6, h⟩ := h
  obtain ⟨w4, ew4⟩ : ∃ y, y = fh_up w a0 (.inr (9, fs3.set 0 (.int (x1 + 1)))) := ⟨_, rfl⟩
  replace h := h w4 ew4
  refine kp_XAL_63 hx hb hown hts hN hK hP hS g5 g6 dXAL_fastRemove_7 (fun H locs hP hS => ?_)
  rw [← ew4] at hP
  refine lv_aload_n hx hb dXAL_fastRemove_10 rfl (lv_at hl 0 rfl) ?_
  obtain ⟨x7, g8, h⟩ := h
  refine kg_XAL_48 hx hb hown hts hN hK hP g8 dXAL_fastRemove_11 ?_
  refine lv_iconst (v := 1) hx hb dXAL_fastRemove_14 (by decide) ?_
  refine lv_isub hx hb dXAL_fastRemove_15 ?_
  refine lv_dup hx hb dXAL_fastRemove_16 rfl ?_
  refine lv_istore_n (lv' := [(3, .int (x7 - 1)), (0, .ref a0), (1, .ref a1), (2, .int a2)]) hx hb dXAL_fastRemove_17 rfl hl (by decide) rfl (fun ls hl => ?_)
  refine lv_iload_n hx hb dXAL_fastRemove_18 rfl (lv_at hl 3 rfl) ?_
  refine lv_icmp_le (tgt := 34) hx hb dXAL_fastRemove_19 (by decide) (fun c9 => ?_) (fun c9 => ?_)
  · replace h := h.1 c9
    exact sKXAL_fastRemove_34  C0  w4 a0 a1 (x7 - 1) h H locs ls hP hS (lv_sub hl [1, 2, 0] rfl)
  · replace h := h.2 c9
    refine lv_aload_n hx hb dXAL_fastRemove_22 rfl (lv_at hl 2 rfl) ?_
    refine lv_iload_n hx hb dXAL_fastRemove_23 rfl (lv_at hl 3 rfl) ?_
    refine lv_iconst (v := 1) hx hb dXAL_fastRemove_24 (by decide) ?_
    refine lv_iadd hx hb dXAL_fastRemove_25 ?_
    refine lv_aload_n hx hb dXAL_fastRemove_26 rfl (lv_at hl 2 rfl) ?_
    refine lv_iload_n hx hb dXAL_fastRemove_27 rfl (lv_at hl 3 rfl) ?_
    refine lv_iload_n hx hb dXAL_fastRemove_28 rfl (lv_at hl 0 rfl) ?_
    refine lv_iload_n hx hb dXAL_fastRemove_29 rfl (lv_at hl 3 rfl) ?_
    refine lv_isub hx hb dXAL_fastRemove_30 ?_
    obtain ⟨n11, f12, g13, hc1, hc2, hc3, hc4, hc5, hc6, h⟩ := h
    obtain ⟨w10, ew10⟩ : ∃ y, y = fh_up w4 a1 (.inl (3, n11, .inr (.inr (.inr (.inr (va_cpy f12 f12 (Int32.toNatClampNeg (a2 + 1)) (Int32.toNatClampNeg a2) (Int32.toNatClampNeg ((x7 - 1) - a2)))))))) := ⟨_, rfl⟩
    replace h := h w10 ew10
    refine kcpO hx hb (by rw [hml]; exact hl.1.symm) hown hts (hts (.methodLink RXAL 112 arraycopyName) (fx_m (by decide +kernel))) hN hK hP hS g13 hc1 hc2 hc3 hc4 hc5 hc6 (Nat.le_of_ble_eq_true rfl) (Nat.le_of_ble_eq_true rfl) dXAL_fastRemove_31 (fun H locs hP hS => ?_)
    rw [← ew10] at hP
    exact sKXAL_fastRemove_34  C0  w10 a0 a1 (x7 - 1) h H locs ls hP hS (lv_sub hl [1, 2, 0] rfl)
set_option maxRecDepth 100000 in
set_option maxHeartbeats 4000000 in
theorem cKXAL_fastRemove {l : Launch} {D : va_G} {ca : Nat → Nat} {A : Nat → Prop} {post : fh_T → Prop} {w : fh_T} {a0 : Nat} {a1 : Nat} {a2 : Int32} (h : wKXAL_fastRemove post w a0 a1 a2) : Met l yXAL_fastRemove (.code yXAL_fastRemove cXAL_fastRemove 4 none :: lg_tbl) ({ frames := 1, cells := 0, slots := 0, locals := 40 } : Room) (va_Pc [.ref a0, .ref a1, .int a2] (kB D ca A w)) (va_Qv post (fxC (fh_ok D ca A)) A) 0 0 A := by
  refine fx_start (by decide +kernel) (Nat.le_of_ble_eq_true rfl) ?_
  intro p e s m below meth c ls hx hb hr hml hown hts hlocks hnm hB hl
  exact sKXAL_fastRemove_in ⟨hx, hb, hr, hml, hown, hts, hlocks, hB.2.2.1, hB.2.2.2.1, hB.2.2.2.2, hB.2.1, hnm⟩ w a0 a1 a2 h _ _ ls hB.1 va_S.rf hl
def wKXAL_remove (post : Option Nat → fh_T → Prop) (w : fh_T) (a0 : Nat) (a1 : Int32) : Prop := (∃ x1, fh_g w a0 9 2 (.int x1) ∧ (wKXOb_checkIndex (fun r3 w_3 => (∃ x4, fh_g w_3 a0 9 1 (.ref x4) ∧ (∃ n6 f7 y8, w_3 x4 = some (.inl (3, n6, .inr (.inr (.inr (.inr f7))))) ∧ vp_in a1 n6 ∧ f7 (Int32.toNatClampNeg a1) = some y8 ∧ (∃ fs13, w_3 a0 = some (.inr (9, fs13)) ∧ (wKXAL_fastRemove (fun w_12 => (post (some y8) w_12)) w_3 a0 x4 a1))))) w a1 x1))
set_option maxRecDepth 100000 in
set_option maxHeartbeats 4000000 in
theorem sKXAL_remove_in {p : Program} {l : Launch} {e : Env} {s : State} {m : MethodId} {args : Array Value} {below : List Frame} {meth : Method} {c : Code} {D : va_G} {ca : Nat → Nat} {A : Nat → Prop} {post : Option Nat → fh_T → Prop} (C0 : kCx p s m args meth c D ca A RXAL cXAL_remove 4 (some (.object "java/lang/Object")) "remove") : ∀ (w : fh_T) (a0 : Nat) (a1 : Int32), wKXAL_remove post w a0 a1 → ∀ (H : Heap) (locs : List Loc) (ls : Array Slot), fh_ok D ca A w H → va_S A s.heap H locs → lv_has ls 4 [(0, .ref a0), (1, .int a1)] → W p l e ({ frames := 2, cells := 0, slots := 0, locals := 63 } : Room) s m args below meth c H locs 0 0 (MQ below (va_Qe (fun x => x) post (fxC (fh_ok D ca A)) A) args s 0 0 A) (F0 m 0 ls []) := by
  obtain ⟨hx, hb, hr, hml, hown, hts, hlocks, hK, hN, hE, hA, hin⟩ := id C0
  intro w a0 a1 h H locs ls hP hS hl
  replace h : (∃ x1, fh_g w a0 9 2 (.int x1) ∧ (wKXOb_checkIndex (fun r3 w_3 => (∃ x4, fh_g w_3 a0 9 1 (.ref x4) ∧ (∃ n6 f7 y8, w_3 x4 = some (.inl (3, n6, .inr (.inr (.inr (.inr f7))))) ∧ vp_in a1 n6 ∧ f7 (Int32.toNatClampNeg a1) = some y8 ∧ (∃ fs13, w_3 a0 = some (.inr (9, fs13)) ∧ (wKXAL_fastRemove (fun w_12 => (post (some y8) w_12)) w_3 a0 x4 a1))))) w a1 x1)) := h
  refine lv_iload_n hx hb dXAL_remove_0 rfl (lv_at hl 1 rfl) ?_
  refine lv_aload_n hx hb dXAL_remove_1 rfl (lv_at hl 0 rfl) ?_
  obtain ⟨x1, g2, h⟩ := h
  refine kg_XAL_48 hx hb hown hts hN hK hP g2 dXAL_remove_2 ?_
  refine va_calli (va_runS (As := [.int a1, .int x1]) (rest := []) ⟨hx, hb, hml, hown, hts⟩ (cKXOb_checkIndex h) (gc_XAL_118 hts hN ⟨Nat.le_of_ble_eq_true rfl, Nat.le_of_ble_eq_true rfl⟩) (k_preS hP hS hA hK hN hE) rfl rfl hl.1 rfl (lv_room (Nat.le_of_ble_eq_true rfl)) dXAL_remove_5 ⟨Nat.le_of_ble_eq_true rfl, Nat.le_of_ble_eq_true rfl⟩) hS (fun _ _ q => q) (fun _ q => q) (fun r3 w_3 t H locs ht hvm h hP hz hk hS => ?_)
  rw [fxC, ht] at hP
  refine lv_pop hx hb dXAL_remove_8 rfl ?_
  refine lv_aload_n hx hb dXAL_remove_9 rfl (lv_at hl 0 rfl) ?_
  obtain ⟨x4, g5, h⟩ := h
  refine kg_XAL_9 hx hb hown hts hN hK hP g5 dXAL_remove_10 ?_
  refine lv_astore_n (lv' := [(2, .ref x4), (0, .ref a0), (1, .int a1)]) hx hb dXAL_remove_13 rfl hl (by decide) rfl (fun ls hl => ?_)
  refine lv_aload_n hx hb dXAL_remove_14 rfl (lv_at hl 0 rfl) ?_
  refine lv_iload_n hx hb dXAL_remove_15 rfl (lv_at hl 2 rfl) ?_
  obtain ⟨n6, f7, y8, g9, g10, g11, h⟩ := h
  refine kaa 3 rfl rfl hx hb hK hP g9 g10 g11 dXAL_remove_16 ?_
  refine lv_astore_n (lv' := [(3, .ref y8), (2, .ref x4), (0, .ref a0), (1, .int a1)]) hx hb dXAL_remove_17 rfl hl (by decide) rfl (fun ls hl => ?_)
  refine lv_aload_n hx hb dXAL_remove_18 rfl (lv_at hl 2 rfl) ?_
  refine lv_aload_n hx hb dXAL_remove_19 rfl (lv_at hl 1 rfl) ?_
  refine lv_iload_n hx hb dXAL_remove_20 rfl (lv_at hl 3 rfl) ?_
  obtain ⟨fs13, g14, h⟩ := h
  refine va_callv (va_runV (As := [.ref x4, .int a1]) (rest := []) ⟨hx, hb, hml, hown, hts⟩ (cKXAL_fastRemove h) (gc_XAL_144 hts hN ⟨Nat.le_of_ble_eq_true rfl, Nat.le_of_ble_eq_true rfl⟩) (k_preV g14 rfl hP hS hA hK hN hE) rfl rfl hl.1 rfl (lv_room (Nat.le_of_ble_eq_true rfl)) dXAL_remove_21 ⟨Nat.le_of_ble_eq_true rfl, Nat.le_of_ble_eq_true rfl⟩) hS (fun _ _ q => q) (fun _ q => q) (fun w_12 t H locs ht hvm h hP hz hk hS => ?_)
  rw [fxC, ht] at hP
  refine lv_aload_n hx hb dXAL_remove_24 rfl (lv_at hl 0 rfl) ?_
  exact W.aret hx hb hr (Or.inl ⟨_, rfl⟩) (Or.inr ⟨_, rfl⟩) (fun t ht hW => ⟨⟨(some y8), _, rfl, h, by rw [fxC, ht]; exact hP⟩, hS.F ht⟩) hS.2.2 dXAL_remove_25 hlocks
set_option maxRecDepth 100000 in
set_option maxHeartbeats 4000000 in
theorem cKXAL_remove {l : Launch} {D : va_G} {ca : Nat → Nat} {A : Nat → Prop} {post : Option Nat → fh_T → Prop} {w : fh_T} {a0 : Nat} {a1 : Int32} (h : wKXAL_remove post w a0 a1) : Met l yXAL_remove (.code yXAL_remove cXAL_remove 4 (some (.object "java/lang/Object")) :: lg_tbl) ({ frames := 2, cells := 0, slots := 0, locals := 63 } : Room) (va_Pc [.ref a0, .int a1] (kB D ca A w)) (va_Qe (fun x => x) post (fxC (fh_ok D ca A)) A) 0 0 A := by
  refine fx_start (by decide +kernel) (Nat.le_of_ble_eq_true rfl) ?_
  intro p e s m below meth c ls hx hb hr hml hown hts hlocks hnm hB hl
  exact sKXAL_remove_in ⟨hx, hb, hr, hml, hown, hts, hlocks, hB.2.2.1, hB.2.2.2.1, hB.2.2.2.2, hB.2.1, hnm⟩ w a0 a1 h _ _ ls hB.1 va_S.rf hl
noncomputable def wKXRe_letWait_2 (post : fh_T → Prop) (n : Nat) : fh_T → Nat → Nat → Nat → Nat → Int32 → Prop := Nat.rec (motive := fun _ => fh_T → Nat → Nat → Nat → Nat → Int32 → Prop) (fun _ _ _ _ _ _ => False) (fun _ K2 w mc ms v0 v1 v2 => (∃ x1, fh_g w v0 4 3 (.ref x1) ∧ (∃ fs4, w x1 = some (.inr (9, fs4)) ∧ (wKXAL_size (fun r3 w_3 => ((r3 ≤ v2 → (∃ x7, fh_g w_3 v0 4 3 (.ref x7) ∧ (∃ fs10, w_3 x7 = some (.inr (9, fs10)) ∧ (∃ a12 b13 mc14 ms15, mc = mc14 + a12 ∧ ms = ms15 + b13 ∧ (wKXAL_add (fun r9 w_9 => (∃ x16, fh_g w_9 v0 4 3 (.ref x16) ∧ (∃ fs19, w_9 x16 = some (.inr (9, fs19)) ∧ (wKXAL_size (fun r18 w_18 => ((r18 ≤ 5 → (post w_18)) ∧ (¬ r18 ≤ 5 → (∃ x22, fh_g w_18 v0 4 3 (.ref x22) ∧ (∃ fs25, w_18 x22 = some (.inr (9, fs25)) ∧ (wKXAL_remove (fun r24 w_24 => (∃ y27, r24 = some y27 ∧ (post w_24))) w_18 x22 0)))))) w_9 x16)))) w_3 a12 b13 x7 v1))))) ∧ (¬ r3 ≤ v2 → (∃ x29, fh_g w_3 v0 4 3 (.ref x29) ∧ (∃ fs32, w_3 x29 = some (.inr (9, fs32)) ∧ (wKXAL_get (fun r31 w_31 => (∃ y34, r31 = some y34 ∧ (∃ fs36, w_31 y34 = some (.inr (5, fs36)) ∧ (∃ x38, fh_g w_31 y34 5 5 (.long x38) ∧ (∃ x40, fh_g w_31 v1 5 5 (.long x40) ∧ ((¬ (lg_cmp x38 x40) = 0 → (K2 w_31 mc ms v0 v1 (v2 + 1))) ∧ ((lg_cmp x38 x40) = 0 → (post w_31)))))))) w_3 x29 v2)))))) w x1)))) n
def wKXRe_letWait (post : fh_T → Prop) (w : fh_T) (mc : Nat) (ms : Nat) (a0 : Nat) (a1 : Nat) : Prop := (∃ k, wKXRe_letWait_2 post  k w mc ms a0 a1 0)
set_option maxRecDepth 100000 in
set_option maxHeartbeats 4000000 in
theorem sKXRe_letWait_2 {p : Program} {l : Launch} {e : Env} {s : State} {m : MethodId} {args : Array Value} {below : List Frame} {meth : Method} {c : Code} {D : va_G} {ca : Nat → Nat} {A : Nat → Prop} {MC MS : Nat} {post : fh_T → Prop} (C0 : kCx p s m args meth c D ca A RXRe cXRe_letWait 3 none "letWait") : ∀ (n : Nat) (w : fh_T) (mc : Nat) (ms : Nat) (v0 : Nat) (v1 : Nat) (v2 : Int32), wKXRe_letWait_2 post  n w mc ms v0 v1 v2 → ∀ (H : Heap) (locs : List Loc) (ls : Array Slot), fh_ok D ca A w H → va_S A s.heap H locs → lv_has ls 3 [(0, .ref v0), (1, .ref v1), (2, .int v2)] → ∀ cells slots : Nat, cells + mc = MC → slots + ms = MS → W p l e ({ frames := 5, cells := MC, slots := MS, locals := 127 } : Room) s m args below meth c H locs cells slots (MQ below (va_Qv post (fxC (fh_ok D ca A)) A) args s MC MS A) (F0 m 2 ls []) := by
  obtain ⟨hx, hb, hr, hml, hown, hts, hlocks, hK, hN, hE, hA, hin⟩ := id C0
  intro n
  induction n with
  | zero => exact fun _ _ _ _ _ _ h => h.elim
  | succ n hK2 =>
    intro w mc ms v0 v1 v2 h H locs ls hP hS hl cells slots hbc hbs
    replace h : (∃ x1, fh_g w v0 4 3 (.ref x1) ∧ (∃ fs4, w x1 = some (.inr (9, fs4)) ∧ (wKXAL_size (fun r3 w_3 => ((r3 ≤ v2 → (∃ x7, fh_g w_3 v0 4 3 (.ref x7) ∧ (∃ fs10, w_3 x7 = some (.inr (9, fs10)) ∧ (∃ a12 b13 mc14 ms15, mc = mc14 + a12 ∧ ms = ms15 + b13 ∧ (wKXAL_add (fun r9 w_9 => (∃ x16, fh_g w_9 v0 4 3 (.ref x16) ∧ (∃ fs19, w_9 x16 = some (.inr (9, fs19)) ∧ (wKXAL_size (fun r18 w_18 => ((r18 ≤ 5 → (post w_18)) ∧ (¬ r18 ≤ 5 → (∃ x22, fh_g w_18 v0 4 3 (.ref x22) ∧ (∃ fs25, w_18 x22 = some (.inr (9, fs25)) ∧ (wKXAL_remove (fun r24 w_24 => (∃ y27, r24 = some y27 ∧ (post w_24))) w_18 x22 0)))))) w_9 x16)))) w_3 a12 b13 x7 v1))))) ∧ (¬ r3 ≤ v2 → (∃ x29, fh_g w_3 v0 4 3 (.ref x29) ∧ (∃ fs32, w_3 x29 = some (.inr (9, fs32)) ∧ (wKXAL_get (fun r31 w_31 => (∃ y34, r31 = some y34 ∧ (∃ fs36, w_31 y34 = some (.inr (5, fs36)) ∧ (∃ x38, fh_g w_31 y34 5 5 (.long x38) ∧ (∃ x40, fh_g w_31 v1 5 5 (.long x40) ∧ ((¬ (lg_cmp x38 x40) = 0 → ((wKXRe_letWait_2 post  n) w_31 mc ms v0 v1 (v2 + 1))) ∧ ((lg_cmp x38 x40) = 0 → (post w_31)))))))) w_3 x29 v2)))))) w x1))) := h
    refine lv_iload_n hx hb dXRe_letWait_2 rfl (lv_at hl 2 rfl) ?_
    refine lv_aload_n hx hb dXRe_letWait_3 rfl (lv_at hl 0 rfl) ?_
    obtain ⟨x1, g2, h⟩ := h
    refine kg_XRe_24 hx hb hown hts hN hK hP g2 dXRe_letWait_4 ?_
    obtain ⟨fs4, g5, h⟩ := h
    refine va_calli (va_runV (As := []) (rest := [.int v2]) ⟨hx, hb, hml, hown, hts⟩ (cKXAL_size h) (gc_XRe_110 hts hN ⟨Nat.le_of_ble_eq_true rfl, Nat.le_of_ble_eq_true rfl⟩) (k_preV g5 rfl hP hS hA hK hN hE) rfl rfl hl.1 rfl (lv_room (Nat.le_of_ble_eq_true rfl)) dXRe_letWait_7 ⟨show cells + 0 ≤ MC by omega, show slots + 0 ≤ MS by omega⟩) hS (fun _ _ q => q) (fun _ q => q) (fun r3 w_3 t H locs ht hvm h hP hz hk hS => ?_)
    rw [fxC, ht] at hP
    refine W.cs (cells' := cells) (slots' := slots) rfl rfl ?_
    refine lv_icmp_ge (tgt := 42) hx hb dXRe_letWait_10 (by decide) (fun c6 => ?_) (fun c6 => ?_)
    · replace h := h.1 c6
      refine lv_aload_n hx hb dXRe_letWait_42 rfl (lv_at hl 0 rfl) ?_
      obtain ⟨x7, g8, h⟩ := h
      refine kg_XRe_24 hx hb hown hts hN hK hP g8 dXRe_letWait_43 ?_
      refine lv_aload_n hx hb dXRe_letWait_46 rfl (lv_at hl 1 rfl) ?_
      obtain ⟨fs10, g11, h⟩ := h
      obtain ⟨a12, b13, mc14, ms15, hm1, hm2, h⟩ := h
      refine va_calli (va_runV (As := [.ref v1]) (rest := []) ⟨hx, hb, hml, hown, hts⟩ (cKXAL_add h) (gc_XRe_116 hts hN ⟨Nat.le_of_ble_eq_true rfl, Nat.le_of_ble_eq_true rfl⟩) (k_preV g11 rfl hP hS hA hK hN hE) rfl rfl hl.1 rfl (lv_room (Nat.le_of_ble_eq_true rfl)) dXRe_letWait_47 ⟨show cells + a12 ≤ MC by omega, show slots + b13 ≤ MS by omega⟩) hS (fun _ _ q => q) (fun _ q => q) (fun r9 w_9 t H locs ht hvm h hP hz hk hS => ?_)
      rw [fxC, ht] at hP
      refine W.cs (cells' := cells + a12) (slots' := slots + b13) rfl rfl ?_
      replace hbc : cells + a12 + mc14 = MC := by omega
      replace hbs : slots + b13 + ms15 = MS := by omega
      refine lv_pop hx hb dXRe_letWait_50 rfl ?_
      refine lv_aload_n hx hb dXRe_letWait_51 rfl (lv_at hl 0 rfl) ?_
      obtain ⟨x16, g17, h⟩ := h
      refine kg_XRe_24 hx hb hown hts hN hK hP g17 dXRe_letWait_52 ?_
      obtain ⟨fs19, g20, h⟩ := h
      refine va_calli (va_runV (As := []) (rest := []) ⟨hx, hb, hml, hown, hts⟩ (cKXAL_size h) (gc_XRe_110 hts hN ⟨Nat.le_of_ble_eq_true rfl, Nat.le_of_ble_eq_true rfl⟩) (k_preV g20 rfl hP hS hA hK hN hE) rfl rfl hl.1 rfl (lv_room (Nat.le_of_ble_eq_true rfl)) dXRe_letWait_55 ⟨show cells + a12 + 0 ≤ MC by omega, show slots + b13 + 0 ≤ MS by omega⟩) hS (fun _ _ q => q) (fun _ q => q) (fun r18 w_18 t H locs ht hvm h hP hz hk hS => ?_)
      rw [fxC, ht] at hP
      refine W.cs (cells' := cells + a12) (slots' := slots + b13) rfl rfl ?_
      refine lv_iconst (v := 5) hx hb dXRe_letWait_58 (by decide) ?_
      refine lv_icmp_le (tgt := 71) hx hb dXRe_letWait_59 (by decide) (fun c21 => ?_) (fun c21 => ?_)
      · replace h := h.1 c21
        refine W.widen (k := MC) (n := MS) (by omega) (by omega) ?_
        exact W.vret hx hb hr (fun t ht hW => ⟨⟨_, rfl, h, by rw [fxC, ht]; exact hP⟩, hS.F ht⟩) hS.2.2 dXRe_letWait_71 hlocks
      · replace h := h.2 c21
        refine lv_aload_n hx hb dXRe_letWait_62 rfl (lv_at hl 0 rfl) ?_
        obtain ⟨x22, g23, h⟩ := h
        refine kg_XRe_24 hx hb hown hts hN hK hP g23 dXRe_letWait_63 ?_
        refine lv_iconst (v := 0) hx hb dXRe_letWait_66 (by decide) ?_
        obtain ⟨fs25, g26, h⟩ := h
        refine va_calle (va_runV (As := [.int 0]) (rest := []) ⟨hx, hb, hml, hown, hts⟩ (cKXAL_remove h) (gc_XRe_70 hts hN ⟨Nat.le_of_ble_eq_true rfl, Nat.le_of_ble_eq_true rfl⟩) (k_preV g26 rfl hP hS hA hK hN hE) rfl rfl hl.1 rfl (lv_room (Nat.le_of_ble_eq_true rfl)) dXRe_letWait_67 ⟨show cells + a12 + 0 ≤ MC by omega, show slots + b13 + 0 ≤ MS by omega⟩) hS (fun _ _ q => q) (fun _ q => q) (fun r24 w_24 t H locs ht hvm h hP hz hk hS => ?_)
        rw [fxC, ht] at hP
        refine W.cs (cells' := cells + a12) (slots' := slots + b13) rfl rfl ?_
        obtain ⟨y27, e28, h⟩ := h
        subst e28
        refine lv_pop hx hb dXRe_letWait_70 rfl ?_
        refine W.widen (k := MC) (n := MS) (by omega) (by omega) ?_
        exact W.vret hx hb hr (fun t ht hW => ⟨⟨_, rfl, h, by rw [fxC, ht]; exact hP⟩, hS.F ht⟩) hS.2.2 dXRe_letWait_71 hlocks
    · replace h := h.2 c6
      refine lv_aload_n hx hb dXRe_letWait_13 rfl (lv_at hl 0 rfl) ?_
      obtain ⟨x29, g30, h⟩ := h
      refine kg_XRe_24 hx hb hown hts hN hK hP g30 dXRe_letWait_14 ?_
      refine lv_iload_n hx hb dXRe_letWait_17 rfl (lv_at hl 2 rfl) ?_
      obtain ⟨fs32, g33, h⟩ := h
      refine va_calle (va_runV (As := [.int v2]) (rest := []) ⟨hx, hb, hml, hown, hts⟩ (cKXAL_get h) (gc_XRe_113 hts hN ⟨Nat.le_of_ble_eq_true rfl, Nat.le_of_ble_eq_true rfl⟩) (k_preV g33 rfl hP hS hA hK hN hE) rfl rfl hl.1 rfl (lv_room (Nat.le_of_ble_eq_true rfl)) dXRe_letWait_18 ⟨show cells + 0 ≤ MC by omega, show slots + 0 ≤ MS by omega⟩) hS (fun _ _ q => q) (fun _ q => q) (fun r31 w_31 t H locs ht hvm h hP hz hk hS => ?_)
      rw [fxC, ht] at hP
      refine W.cs (cells' := cells) (slots' := slots) rfl rfl ?_
      obtain ⟨y34, e35, h⟩ := h
      subst e35
      obtain ⟨fs36, g37, h⟩ := h
      refine kcast hx hb hown (hts (.classLink RXRe 47 "HashLinkedWeb$Operation") (fx_m (by decide +kernel))) hN hK hP g37 dXRe_letWait_21 ?_
      obtain ⟨x38, g39, h⟩ := h
      refine kg_XRe_74 hx hb hown hts hN hK hP g39 dXRe_letWait_24 ?_
      refine lv_aload_n hx hb dXRe_letWait_27 rfl (lv_at hl 1 rfl) ?_
      obtain ⟨x40, g41, h⟩ := h
      refine kg_XRe_74 hx hb hown hts hN hK hP g41 dXRe_letWait_28 ?_
      refine W.lcmp hx hb dXRe_letWait_31 ?_
      refine lv_if_ne (tgt := 36) hx hb dXRe_letWait_32 (by decide) (fun c42 => ?_) (fun c42 => ?_)
      · replace h := h.1 c42
        refine lv_iinc (v := v2 + 1) (lv' := [(2, .int (v2 + 1)), (0, .ref v0), (1, .ref v1)]) hx hb dXRe_letWait_36 hl (k := 2) rfl rfl (by decide) rfl (fun ls hl => ?_)
        refine lv_goto (tgt := 2) hx hb dXRe_letWait_39 (by decide) ?_
        exact hK2 w_31 mc ms v0 v1 (v2 + 1) h H locs ls hP hS (lv_sub hl [1, 2, 0] rfl) _ _ hbc hbs
      · replace h := h.2 c42
        refine W.widen (k := MC) (n := MS) (by omega) (by omega) ?_
        exact W.vret hx hb hr (fun t ht hW => ⟨⟨_, rfl, h, by rw [fxC, ht]; exact hP⟩, hS.F ht⟩) hS.2.2 dXRe_letWait_35 hlocks
set_option maxRecDepth 100000 in
set_option maxHeartbeats 4000000 in
theorem sKXRe_letWait_in {p : Program} {l : Launch} {e : Env} {s : State} {m : MethodId} {args : Array Value} {below : List Frame} {meth : Method} {c : Code} {D : va_G} {ca : Nat → Nat} {A : Nat → Prop} {MC MS : Nat} {post : fh_T → Prop} (C0 : kCx p s m args meth c D ca A RXRe cXRe_letWait 3 none "letWait") : ∀ (w : fh_T) (mc : Nat) (ms : Nat) (a0 : Nat) (a1 : Nat), wKXRe_letWait post w mc ms a0 a1 → ∀ (H : Heap) (locs : List Loc) (ls : Array Slot), fh_ok D ca A w H → va_S A s.heap H locs → lv_has ls 3 [(0, .ref a0), (1, .ref a1)] → ∀ cells slots : Nat, cells + mc = MC → slots + ms = MS → W p l e ({ frames := 5, cells := MC, slots := MS, locals := 127 } : Room) s m args below meth c H locs cells slots (MQ below (va_Qv post (fxC (fh_ok D ca A)) A) args s MC MS A) (F0 m 0 ls []) := by
  obtain ⟨hx, hb, hr, hml, hown, hts, hlocks, hK, hN, hE, hA, hin⟩ := id C0
  intro w mc ms a0 a1 h H locs ls hP hS hl cells slots hbc hbs
  replace h : (∃ k, wKXRe_letWait_2 post  k w mc ms a0 a1 0) := h
  refine lv_iconst (v := 0) hx hb dXRe_letWait_0 (by decide) ?_
  refine lv_istore_n (lv' := [(2, .int 0), (0, .ref a0), (1, .ref a1)]) hx hb dXRe_letWait_1 rfl hl (by decide) rfl (fun ls hl => ?_)
  obtain ⟨k, h⟩ := h
  exact sKXRe_letWait_2  C0  k w mc ms a0 a1 0 h H locs ls hP hS (lv_sub hl [1, 2, 0] rfl) _ _ hbc hbs
set_option maxRecDepth 100000 in
set_option maxHeartbeats 4000000 in
theorem cKXRe_letWait {l : Launch} {D : va_G} {ca : Nat → Nat} {A : Nat → Prop} {post : fh_T → Prop} {w : fh_T} {mc : Nat} {ms : Nat} {a0 : Nat} {a1 : Nat} (h : wKXRe_letWait post w mc ms a0 a1) : Met l yXRe_letWait (.code yXRe_letWait cXRe_letWait 3 none :: lg_tbl) ({ frames := 5, cells := mc, slots := ms, locals := 127 } : Room) (va_Pc [.ref a0, .ref a1] (kB D ca A w)) (va_Qv post (fxC (fh_ok D ca A)) A) mc ms A := by
  refine fx_start (by decide +kernel) (Nat.le_of_ble_eq_true rfl) ?_
  intro p e s m below meth c ls hx hb hr hml hown hts hlocks hnm hB hl
  exact sKXRe_letWait_in ⟨hx, hb, hr, hml, hown, hts, hlocks, hB.2.2.1, hB.2.2.2.1, hB.2.2.2.2, hB.2.1, hnm⟩ w mc ms a0 a1 h _ _ ls hB.1 va_S.rf hl 0 0 (Nat.zero_add _) (Nat.zero_add _)
def wKXMe_init (post : fh_T → Prop) (w : fh_T) (a0 : Nat) (a1 : Nat) (a2 : Int32) (a3 : Int32) (a4 : Int64) (a5 : Int64) : Prop := (∃ fs1, w a0 = some (.inr (7, fs1)) ∧ 0 < fs1.length ∧ ∀ w2, w2 = fh_up w a0 (.inr (7, fs1.set 0 (.ref a1))) → (∃ fs5, w2 a0 = some (.inr (7, fs5)) ∧ 1 < fs5.length ∧ ∀ w6, w6 = fh_up w2 a0 (.inr (7, fs5.set 1 (.int a2))) → (∃ fs9, w6 a0 = some (.inr (7, fs9)) ∧ 2 < fs9.length ∧ ∀ w10, w10 = fh_up w6 a0 (.inr (7, fs9.set 2 (.int a3))) → (∃ fs13, w10 a0 = some (.inr (7, fs13)) ∧ 3 < fs13.length ∧ ∀ w14, w14 = fh_up w10 a0 (.inr (7, fs13.set 3 (.long a4))) → (∃ fs17, w14 a0 = some (.inr (7, fs17)) ∧ 4 < fs17.length ∧ ∀ w18, w18 = fh_up w14 a0 (.inr (7, fs17.set 4 (.long a5))) → (post w18))))))
set_option maxRecDepth 100000 in
set_option maxHeartbeats 4000000 in
theorem sKXMe_init_in {p : Program} {l : Launch} {e : Env} {s : State} {m : MethodId} {args : Array Value} {below : List Frame} {meth : Method} {c : Code} {D : va_G} {ca : Nat → Nat} {A : Nat → Prop} {post : fh_T → Prop} (C0 : kCx p s m args meth c D ca A RXMe cXMe_init 8 none "<init>") : ∀ (w : fh_T) (a0 : Nat) (a1 : Nat) (a2 : Int32) (a3 : Int32) (a4 : Int64) (a5 : Int64), wKXMe_init post w a0 a1 a2 a3 a4 a5 → ∀ (H : Heap) (locs : List Loc) (ls : Array Slot), fh_ok D ca A w H → va_S A s.heap H locs → lv_has ls 8 [(0, .ref a0), (1, .ref a1), (2, .int a2), (3, .int a3), (4, .long a4), (6, .long a5)] → W p l e ({ frames := 1, cells := 0, slots := 0, locals := 40 } : Room) s m args below meth c H locs 0 0 (MQ below (va_Qv post (fxC (fh_ok D ca A)) A) args s 0 0 A) (F0 m 0 ls []) := by
  obtain ⟨hx, hb, hr, hml, hown, hts, hlocks, hK, hN, hE, hA, hin⟩ := id C0
  intro w a0 a1 a2 a3 a4 a5 h H locs ls hP hS hl
  replace h : (∃ fs1, w a0 = some (.inr (7, fs1)) ∧ 0 < fs1.length ∧ ∀ w2, w2 = fh_up w a0 (.inr (7, fs1.set 0 (.ref a1))) → (∃ fs5, w2 a0 = some (.inr (7, fs5)) ∧ 1 < fs5.length ∧ ∀ w6, w6 = fh_up w2 a0 (.inr (7, fs5.set 1 (.int a2))) → (∃ fs9, w6 a0 = some (.inr (7, fs9)) ∧ 2 < fs9.length ∧ ∀ w10, w10 = fh_up w6 a0 (.inr (7, fs9.set 2 (.int a3))) → (∃ fs13, w10 a0 = some (.inr (7, fs13)) ∧ 3 < fs13.length ∧ ∀ w14, w14 = fh_up w10 a0 (.inr (7, fs13.set 3 (.long a4))) → (∃ fs17, w14 a0 = some (.inr (7, fs17)) ∧ 4 < fs17.length ∧ ∀ w18, w18 = fh_up w14 a0 (.inr (7, fs17.set 4 (.long a5))) → (post w18)))))) := h
  refine lv_aload_n hx hb dXMe_init_0 rfl (lv_at hl 0 rfl) ?_
  refine W.objInit hx hb hown (hts (.methodLink RXMe 1 objectInit) (fx_m (by decide +kernel))) (hts (.instanceMethod objectInit) (fx_m (by decide +kernel))) (hts _ fx_objc) rfl (by rw [hml]; exact hl.1) rfl dXMe_init_1 (Nat.le_of_ble_eq_true rfl) (Nat.le_of_ble_eq_true rfl) ?_
  refine lv_aload_n hx hb dXMe_init_4 rfl (lv_at hl 0 rfl) ?_
  refine lv_aload_n hx hb dXMe_init_5 rfl (lv_at hl 1 rfl) ?_
  obtain ⟨fs1, g3, g4, h⟩ := h
  obtain ⟨w2, ew2⟩ : ∃ y, y = fh_up w a0 (.inr (7, fs1.set 0 (.ref a1))) := ⟨_, rfl⟩
  replace h := h w2 ew2
  refine kf_XMe_7 hin hx hb hown hts hN hK hP hS g3 g4 dXMe_init_6 (fun H locs hP hS => ?_)
  rw [← ew2] at hP
  refine lv_aload_n hx hb dXMe_init_9 rfl (lv_at hl 0 rfl) ?_
  refine lv_iload_n hx hb dXMe_init_10 rfl (lv_at hl 2 rfl) ?_
  obtain ⟨fs5, g7, g8, h⟩ := h
  obtain ⟨w6, ew6⟩ : ∃ y, y = fh_up w2 a0 (.inr (7, fs5.set 1 (.int a2))) := ⟨_, rfl⟩
  replace h := h w6 ew6
  refine kf_XMe_13 hin hx hb hown hts hN hK hP hS g7 g8 dXMe_init_11 (fun H locs hP hS => ?_)
  rw [← ew6] at hP
  refine lv_aload_n hx hb dXMe_init_14 rfl (lv_at hl 0 rfl) ?_
  refine lv_iload_n hx hb dXMe_init_15 rfl (lv_at hl 3 rfl) ?_
  obtain ⟨fs9, g11, g12, h⟩ := h
  obtain ⟨w10, ew10⟩ : ∃ y, y = fh_up w6 a0 (.inr (7, fs9.set 2 (.int a3))) := ⟨_, rfl⟩
  replace h := h w10 ew10
  refine kf_XMe_17 hin hx hb hown hts hN hK hP hS g11 g12 dXMe_init_16 (fun H locs hP hS => ?_)
  rw [← ew10] at hP
  refine lv_aload_n hx hb dXMe_init_19 rfl (lv_at hl 0 rfl) ?_
  refine lv_lload hx hb dXMe_init_20 (lv_at hl 4 rfl) ?_
  obtain ⟨fs13, g15, g16, h⟩ := h
  obtain ⟨w14, ew14⟩ : ∃ y, y = fh_up w10 a0 (.inr (7, fs13.set 3 (.long a4))) := ⟨_, rfl⟩
  replace h := h w14 ew14
  refine kf_XMe_20 hin hx hb hown hts hN hK hP hS g15 g16 dXMe_init_22 (fun H locs hP hS => ?_)
  rw [← ew14] at hP
  refine lv_aload_n hx hb dXMe_init_25 rfl (lv_at hl 0 rfl) ?_
  refine lv_lload hx hb dXMe_init_26 (lv_at hl 5 rfl) ?_
  obtain ⟨fs17, g19, g20, h⟩ := h
  obtain ⟨w18, ew18⟩ : ∃ y, y = fh_up w14 a0 (.inr (7, fs17.set 4 (.long a5))) := ⟨_, rfl⟩
  replace h := h w18 ew18
  refine kf_XMe_24 hin hx hb hown hts hN hK hP hS g19 g20 dXMe_init_28 (fun H locs hP hS => ?_)
  rw [← ew18] at hP
  exact W.vret hx hb hr (fun t ht hW => ⟨⟨_, rfl, h, by rw [fxC, ht]; exact hP⟩, hS.F ht⟩) hS.2.2 dXMe_init_31 hlocks
set_option maxRecDepth 100000 in
set_option maxHeartbeats 4000000 in
theorem cKXMe_init {l : Launch} {D : va_G} {ca : Nat → Nat} {A : Nat → Prop} {post : fh_T → Prop} {w : fh_T} {a0 : Nat} {a1 : Nat} {a2 : Int32} {a3 : Int32} {a4 : Int64} {a5 : Int64} (h : wKXMe_init post w a0 a1 a2 a3 a4 a5) : Met l yXMe_init (.code yXMe_init cXMe_init 8 none :: lg_tbl) ({ frames := 1, cells := 0, slots := 0, locals := 40 } : Room) (va_Pc [.ref a0, .ref a1, .int a2, .int a3, .long a4, .long a5] (kB D ca A w)) (va_Qv post (fxC (fh_ok D ca A)) A) 0 0 A := by
  refine fx_start (by decide +kernel) (Nat.le_of_ble_eq_true rfl) ?_
  intro p e s m below meth c ls hx hb hr hml hown hts hlocks hnm hB hl
  exact sKXMe_init_in ⟨hx, hb, hr, hml, hown, hts, hlocks, hB.2.2.1, hB.2.2.2.1, hB.2.2.2.2, hB.2.1, hnm⟩ w a0 a1 a2 a3 a4 a5 h _ _ ls hB.1 va_S.rf hl
