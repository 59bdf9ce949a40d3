def wKXRo_init (post : fh_T → Prop) (w : fh_T) (mc : Nat) (ms : Nat) (a0 : Nat) : Prop := (∃ n3 mc4 ms5, ¬ (40 : Int32) < 0 ∧ Int32.toNatClampNeg 40 = n3 ∧ n3 * 4 ≤ 536870912 ∧ mc = mc4 + 1 ∧ ms = ms5 + n3 ∧ ∀ q1, w q1 = none → ∀ w2, w2 = fh_up w q1 (.inl (0, n3, .inr (.inr (.inr (.inr (fun _ => none)))))) → (∃ fs6, w2 a0 = some (.inr (3, fs6)) ∧ 0 < fs6.length ∧ ∀ w7, w7 = fh_up w2 a0 (.inr (3, fs6.set 0 (.ref q1))) → (post w7)))
set_option maxRecDepth 100000 in
set_option maxHeartbeats 4000000 in
theorem sKXRo_init_in {p : Program} {l : Launch} {e : Env} {s : State} {m : MethodId} {args : Array Value} {below : List Frame} {meth : Method} {c : Code} {D : va_G} {ca : Nat → Nat} {A : Nat → Prop} {MC MS : Nat} {post : fh_T → Prop} (C0 : kCx p s m args meth c D ca A RXRo cXRo_init 1 none "<init>") : ∀ (w : fh_T) (mc : Nat) (ms : Nat) (a0 : Nat), wKXRo_init post w mc ms a0 → ∀ (H : Heap) (locs : List Loc) (ls : Array Slot), fh_ok D ca A w H → va_S A s.heap H locs → lv_has ls 1 [(0, .ref a0)] → ∀ cells slots : Nat, cells + mc = MC → slots + ms = MS → W p l e ({ frames := 1, cells := MC, slots := MS, locals := 40 } : Room) s m args below meth c H locs cells slots (MQ below (va_Qv post (fxC (fh_ok D ca A)) A) args s MC MS A) (F0 m 0 ls []) := by
  obtain ⟨hx, hb, hr, hml, hown, hts, hlocks, hK, hN, hE, hA, hin⟩ := id C0
  intro w mc ms a0 h H locs ls hP hS hl cells slots hbc hbs
  replace h : (∃ n3 mc4 ms5, ¬ (40 : Int32) < 0 ∧ Int32.toNatClampNeg 40 = n3 ∧ n3 * 4 ≤ 536870912 ∧ mc = mc4 + 1 ∧ ms = ms5 + n3 ∧ ∀ q1, w q1 = none → ∀ w2, w2 = fh_up w q1 (.inl (0, n3, .inr (.inr (.inr (.inr (fun _ => none)))))) → (∃ fs6, w2 a0 = some (.inr (3, fs6)) ∧ 0 < fs6.length ∧ ∀ w7, w7 = fh_up w2 a0 (.inr (3, fs6.set 0 (.ref q1))) → (post w7))) := h
  refine lv_aload_n hx hb dXRo_init_0 rfl (lv_at hl 0 rfl) ?_
  refine W.objInit hx hb hown (hts (.methodLink RXRo 3 objectInit) (fx_m (by decide +kernel))) (hts (.instanceMethod objectInit) (fx_m (by decide +kernel))) (hts _ fx_objc) rfl (by rw [hml]; exact hl.1) rfl dXRo_init_1 (Nat.le_of_ble_eq_true rfl) (Nat.le_of_ble_eq_true rfl) ?_
  refine lv_aload_n hx hb dXRo_init_4 rfl (lv_at hl 0 rfl) ?_
  refine lv_bipush (v := 40) hx hb dXRo_init_5 (by decide) ?_
  obtain ⟨n3, mc4, ms5, hn1, hn2, hn3, hm1, hm2, h⟩ := h
  refine kqnew 0 rfl rfl hx hb hown (hts (.classLink RXRo 9 "HashLinkedWeb$Member") (fx_m (by decide +kernel))) (hN.use (args := #[]) (w := .arrayOver (.object "HashLinkedWeb$Member")) (by decide +kernel)) hK hE hP hS hA hn1 hn2 hn3 (show cells + 1 ≤ MC by omega) (show slots + n3 ≤ MS by omega) dXRo_init_7 (fun q1 H hq hP hS => ?_)
  obtain ⟨w2, ew2⟩ : ∃ y, y = fh_up w q1 (.inl (0, n3, .inr (.inr (.inr (.inr (fun _ => none)))))) := ⟨_, rfl⟩
  replace h := h q1 hq w2 ew2
  rw [← ew2] at hP
  replace hbc : cells + 1 + mc4 = MC := by omega
  replace hbs : slots + n3 + ms5 = MS := by omega
  obtain ⟨fs6, g8, g9, h⟩ := h
  obtain ⟨w7, ew7⟩ : ∃ y, y = fh_up w2 a0 (.inr (3, fs6.set 0 (.ref q1))) := ⟨_, rfl⟩
  replace h := h w7 ew7
  refine kf_XRo_11 hin hx hb hown hts hN hK hP hS g8 g9 dXRo_init_10 (fun H locs hP hS => ?_)
  rw [← ew7] at hP
  refine W.widen (k := MC) (n := MS) (by omega) (by omega) ?_
  exact W.vret hx hb hr (fun t ht hW => ⟨⟨_, rfl, h, by rw [fxC, ht]; exact hP⟩, hS.F ht⟩) hS.2.2 dXRo_init_13 hlocks
set_option maxRecDepth 100000 in
set_option maxHeartbeats 4000000 in
theorem cKXRo_init {l : Launch} {D : va_G} {ca : Nat → Nat} {A : Nat → Prop} {post : fh_T → Prop} {w : fh_T} {mc : Nat} {ms : Nat} {a0 : Nat} (h : wKXRo_init post w mc ms a0) : Met l yXRo_init (.code yXRo_init cXRo_init 1 none :: lg_tbl) ({ frames := 1, cells := mc, slots := ms, locals := 40 } : Room) (va_Pc [.ref a0] (kB D ca A w)) (va_Qv post (fxC (fh_ok D ca A)) A) mc ms A := by
  refine fx_start (by decide +kernel) (Nat.le_of_ble_eq_true rfl) ?_
  intro p e s m below meth c ls hx hb hr hml hown hts hlocks hnm hB hl
  exact sKXRo_init_in ⟨hx, hb, hr, hml, hown, hts, hlocks, hB.2.2.1, hB.2.2.2.1, hB.2.2.2.2, hB.2.1, hnm⟩ w mc ms a0 h _ _ ls hB.1 va_S.rf hl 0 0 (Nat.zero_add _) (Nat.zero_add _)
def wKXKn_init (post : fh_T → Prop) (w : fh_T) (mc : Nat) (ms : Nat) (a0 : Nat) : Prop := (∃ mc3 ms4, mc = mc3 + 1 ∧ ms = ms4 + 2 ∧ ∀ q1, w q1 = none → ∀ w2, w2 = fh_up w q1 (.inr (3, [.null, .int 0])) → (∃ a6 b7 mc8 ms9, mc3 = mc8 + a6 ∧ ms4 = ms9 + b7 ∧ (wKXRo_init (fun w_5 => (∃ fs10, w_5 a0 = some (.inr (2, fs10)) ∧ 0 < fs10.length ∧ ∀ w11, w11 = fh_up w_5 a0 (.inr (2, fs10.set 0 (.ref q1))) → (post w11))) w2 a6 b7 q1)))
set_option maxRecDepth 100000 in
set_option maxHeartbeats 4000000 in
theorem sKXKn_init_in {p : Program} {l : Launch} {e : Env} {s : State} {m : MethodId} {args : Array Value} {below : List Frame} {meth : Method} {c : Code} {D : va_G} {ca : Nat → Nat} {A : Nat → Prop} {MC MS : Nat} {post : fh_T → Prop} (C0 : kCx p s m args meth c D ca A RXKn cXKn_init 1 none "<init>") : ∀ (w : fh_T) (mc : Nat) (ms : Nat) (a0 : Nat), wKXKn_init post w mc ms a0 → ∀ (H : Heap) (locs : List Loc) (ls : Array Slot), fh_ok D ca A w H → va_S A s.heap H locs → lv_has ls 1 [(0, .ref a0)] → ∀ cells slots : Nat, cells + mc = MC → slots + ms = MS → W p l e ({ frames := 2, cells := MC, slots := MS, locals := 60 } : Room) s m args below meth c H locs cells slots (MQ below (va_Qv post (fxC (fh_ok D ca A)) A) args s MC MS A) (F0 m 0 ls []) := by
  obtain ⟨hx, hb, hr, hml, hown, hts, hlocks, hK, hN, hE, hA, hin⟩ := id C0
  intro w mc ms a0 h H locs ls hP hS hl cells slots hbc hbs
  replace h : (∃ mc3 ms4, mc = mc3 + 1 ∧ ms = ms4 + 2 ∧ ∀ q1, w q1 = none → ∀ w2, w2 = fh_up w q1 (.inr (3, [.null, .int 0])) → (∃ a6 b7 mc8 ms9, mc3 = mc8 + a6 ∧ ms4 = ms9 + b7 ∧ (wKXRo_init (fun w_5 => (∃ fs10, w_5 a0 = some (.inr (2, fs10)) ∧ 0 < fs10.length ∧ ∀ w11, w11 = fh_up w_5 a0 (.inr (2, fs10.set 0 (.ref q1))) → (post w11))) w2 a6 b7 q1))) := h
  refine lv_aload_n hx hb dXKn_init_0 rfl (lv_at hl 0 rfl) ?_
  refine W.objInit hx hb hown (hts (.methodLink RXKn 3 objectInit) (fx_m (by decide +kernel))) (hts (.instanceMethod objectInit) (fx_m (by decide +kernel))) (hts _ fx_objc) rfl (by rw [hml]; exact hl.1) rfl dXKn_init_1 (Nat.le_of_ble_eq_true rfl) (Nat.le_of_ble_eq_true rfl) ?_
  refine lv_aload_n hx hb dXKn_init_4 rfl (lv_at hl 0 rfl) ?_
  obtain ⟨mc3, ms4, hm1, hm2, h⟩ := h
  refine ko_XKn_9 hx hb hown hts hK hE hP hS hA (show cells + 1 ≤ MC by omega) (show slots + 2 ≤ MS by omega) dXKn_init_5 (fun q1 H hq hP hS => ?_)
  obtain ⟨w2, ew2⟩ : ∃ y, y = fh_up w q1 (.inr (3, [.null, .int 0])) := ⟨_, rfl⟩
  replace h := h q1 hq w2 ew2
  rw [← ew2] at hP
  replace hbc : cells + 1 + mc3 = MC := by omega
  replace hbs : slots + 2 + ms4 = MS := by omega
  refine lv_dup hx hb dXKn_init_8 rfl ?_
  obtain ⟨a6, b7, mc8, ms9, hm1, hm2, h⟩ := h
  refine va_callv (va_runIN (As := []) (rest := [.ref q1, .ref a0]) ⟨hx, hb, hml, hown, hts⟩ (cKXRo_init h) (gc_XKn_11 hts hN ⟨Nat.le_of_ble_eq_true rfl, Nat.le_of_ble_eq_true rfl⟩) (k_preS hP hS hA hK hN hE) rfl rfl hl.1 rfl (lv_room (Nat.le_of_ble_eq_true rfl)) dXKn_init_9 ⟨show cells + 1 + a6 ≤ MC by omega, show slots + 2 + b7 ≤ MS by omega⟩) hS (fun _ _ q => q) (fun _ q => q) (fun w_5 t H locs ht hvm h hP hz hk hS => ?_)
  rw [fxC, ht] at hP
  refine W.cs (cells' := cells + 1 + a6) (slots' := slots + 2 + b7) rfl rfl ?_
  replace hbc : cells + 1 + a6 + mc8 = MC := by omega
  replace hbs : slots + 2 + b7 + ms9 = MS := by omega
  obtain ⟨fs10, g12, g13, h⟩ := h
  obtain ⟨w11, ew11⟩ : ∃ y, y = fh_up w_5 a0 (.inr (2, fs10.set 0 (.ref q1))) := ⟨_, rfl⟩
  replace h := h w11 ew11
  refine kf_XKn_12 hin hx hb hown hts hN hK hP hS g12 g13 dXKn_init_12 (fun H locs hP hS => ?_)
  rw [← ew11] at hP
  refine W.widen (k := MC) (n := MS) (by omega) (by omega) ?_
  exact W.vret hx hb hr (fun t ht hW => ⟨⟨_, rfl, h, by rw [fxC, ht]; exact hP⟩, hS.F ht⟩) hS.2.2 dXKn_init_15 hlocks
set_option maxRecDepth 100000 in
set_option maxHeartbeats 4000000 in
theorem cKXKn_init {l : Launch} {D : va_G} {ca : Nat → Nat} {A : Nat → Prop} {post : fh_T → Prop} {w : fh_T} {mc : Nat} {ms : Nat} {a0 : Nat} (h : wKXKn_init post w mc ms a0) : Met l yXKn_init (.code yXKn_init cXKn_init 1 none :: lg_tbl) ({ frames := 2, cells := mc, slots := ms, locals := 60 } : Room) (va_Pc [.ref a0] (kB D ca A w)) (va_Qv post (fxC (fh_ok D ca A)) A) mc ms A := by
  refine fx_start (by decide +kernel) (Nat.le_of_ble_eq_true rfl) ?_
  intro p e s m below meth c ls hx hb hr hml hown hts hlocks hnm hB hl
  exact sKXKn_init_in ⟨hx, hb, hr, hml, hown, hts, hlocks, hB.2.2.1, hB.2.2.2.1, hB.2.2.2.2, hB.2.1, hnm⟩ w mc ms a0 h _ _ ls hB.1 va_S.rf hl 0 0 (Nat.zero_add _) (Nat.zero_add _)
def wKXBC_init (post : fh_T → Prop) (w : fh_T) (a0 : Nat) : Prop := (post w)
set_option maxRecDepth 100000 in
set_option maxHeartbeats 4000000 in
theorem sKXBC_init_in {p : Program} {l : Launch} {e : Env} {s : State} {m : MethodId} {args : Array Value} {below : List Frame} {meth : Method} {c : Code} {D : va_G} {ca : Nat → Nat} {A : Nat → Prop} {post : fh_T → Prop} (C0 : kCx p s m args meth c D ca A RXBC cXBC_init 1 none "<init>") : ∀ (w : fh_T) (a0 : Nat), wKXBC_init post w a0 → ∀ (H : Heap) (locs : List Loc) (ls : Array Slot), fh_ok D ca A w H → va_S A s.heap H locs → lv_has ls 1 [(0, .ref a0)] → W p l e ({ frames := 1, cells := 0, slots := 0, locals := 40 } : Room) s m args below meth c H locs 0 0 (MQ below (va_Qv post (fxC (fh_ok D ca A)) A) args s 0 0 A) (F0 m 0 ls []) := by
  obtain ⟨hx, hb, hr, hml, hown, hts, hlocks, hK, hN, hE, hA, hin⟩ := id C0
  intro w a0 h H locs ls hP hS hl
  replace h : (post w) := h
  refine lv_aload_n hx hb dXBC_init_0 rfl (lv_at hl 0 rfl) ?_
  refine W.objInit hx hb hown (hts (.methodLink RXBC 1 objectInit) (fx_m (by decide +kernel))) (hts (.instanceMethod objectInit) (fx_m (by decide +kernel))) (hts _ fx_objc) rfl (by rw [hml]; exact hl.1) rfl dXBC_init_1 (Nat.le_of_ble_eq_true rfl) (Nat.le_of_ble_eq_true rfl) ?_
  exact W.vret hx hb hr (fun t ht hW => ⟨⟨_, rfl, h, by rw [fxC, ht]; exact hP⟩, hS.F ht⟩) hS.2.2 dXBC_init_4 hlocks
set_option maxRecDepth 100000 in
set_option maxHeartbeats 4000000 in
theorem cKXBC_init {l : Launch} {D : va_G} {ca : Nat → Nat} {A : Nat → Prop} {post : fh_T → Prop} {w : fh_T} {a0 : Nat} (h : wKXBC_init post w a0) : Met l yXBC_init (.code yXBC_init cXBC_init 1 none :: lg_tbl) ({ frames := 1, cells := 0, slots := 0, locals := 40 } : Room) (va_Pc [.ref a0] (kB D ca A w)) (va_Qv post (fxC (fh_ok D ca A)) A) 0 0 A := by
  refine fx_start (by decide +kernel) (Nat.le_of_ble_eq_true rfl) ?_
  intro p e s m below meth c ls hx hb hr hml hown hts hlocks hnm hB hl
  exact sKXBC_init_in ⟨hx, hb, hr, hml, hown, hts, hlocks, hB.2.2.1, hB.2.2.2.1, hB.2.2.2.2, hB.2.1, hnm⟩ w a0 h _ _ ls hB.1 va_S.rf hl
def wKXBL_init (post : fh_T → Prop) (w : fh_T) (a0 : Nat) : Prop := (wKXBC_init (fun w_1 => (∃ fs2, w_1 a0 = some (.inr (9, fs2)) ∧ 0 < fs2.length ∧ ∀ w3, w3 = fh_up w_1 a0 (.inr (9, fs2.set 0 (.int 0))) → (post w3))) w a0)
set_option maxRecDepth 100000 in
set_option maxHeartbeats 4000000 in
theorem sKXBL_init_in {p : Program} {l : Launch} {e : Env} {s : State} {m : MethodId} {args : Array Value} {below : List Frame} {meth : Method} {c : Code} {D : va_G} {ca : Nat → Nat} {A : Nat → Prop} {post : fh_T → Prop} (C0 : kCx p s m args meth c D ca A RXBL cXBL_init 1 none "<init>") : ∀ (w : fh_T) (a0 : Nat), wKXBL_init post w a0 → ∀ (H : Heap) (locs : List Loc) (ls : Array Slot), fh_ok D ca A w H → va_S A s.heap H locs → lv_has ls 1 [(0, .ref a0)] → W p l e ({ frames := 2, cells := 0, slots := 0, locals := 60 } : Room) s m args below meth c H locs 0 0 (MQ below (va_Qv post (fxC (fh_ok D ca A)) A) args s 0 0 A) (F0 m 0 ls []) := by
  obtain ⟨hx, hb, hr, hml, hown, hts, hlocks, hK, hN, hE, hA, hin⟩ := id C0
  intro w a0 h H locs ls hP hS hl
  replace h : (wKXBC_init (fun w_1 => (∃ fs2, w_1 a0 = some (.inr (9, fs2)) ∧ 0 < fs2.length ∧ ∀ w3, w3 = fh_up w_1 a0 (.inr (9, fs2.set 0 (.int 0))) → (post w3))) w a0) := h
  refine lv_aload_n hx hb dXBL_init_0 rfl (lv_at hl 0 rfl) ?_
  refine va_callv (va_runI (As := []) (rest := []) ⟨hx, hb, hml, hown, hts⟩ (cKXBC_init h) (gc_XBL_1 hts hN ⟨Nat.le_of_ble_eq_true rfl, Nat.le_of_ble_eq_true rfl⟩) (k_preS hP hS hA hK hN hE) rfl rfl hl.1 rfl (lv_room (Nat.le_of_ble_eq_true rfl)) dXBL_init_1 ⟨Nat.le_of_ble_eq_true rfl, Nat.le_of_ble_eq_true rfl⟩) hS (fun _ _ q => q) (fun _ q => q) (fun w_1 t H locs ht hvm h hP hz hk hS => ?_)
  rw [fxC, ht] at hP
  refine lv_aload_n hx hb dXBL_init_4 rfl (lv_at hl 0 rfl) ?_
  refine lv_iconst (v := 0) hx hb dXBL_init_5 (by decide) ?_
  obtain ⟨fs2, g4, g5, h⟩ := h
  obtain ⟨w3, ew3⟩ : ∃ y, y = fh_up w_1 a0 (.inr (9, fs2.set 0 (.int 0))) := ⟨_, rfl⟩
  replace h := h w3 ew3
  refine kp_XBL_7 hx hb hown hts hN hK hP hS g4 g5 dXBL_init_6 (fun H locs hP hS => ?_)
  rw [← ew3] at hP
  exact W.vret hx hb hr (fun t ht hW => ⟨⟨_, rfl, h, by rw [fxC, ht]; exact hP⟩, hS.F ht⟩) hS.2.2 dXBL_init_9 hlocks
set_option maxRecDepth 100000 in
set_option maxHeartbeats 4000000 in
theorem cKXBL_init {l : Launch} {D : va_G} {ca : Nat → Nat} {A : Nat → Prop} {post : fh_T → Prop} {w : fh_T} {a0 : Nat} (h : wKXBL_init post w a0) : Met l yXBL_init (.code yXBL_init cXBL_init 1 none :: lg_tbl) ({ frames := 2, cells := 0, slots := 0, locals := 60 } : Room) (va_Pc [.ref a0] (kB D ca A w)) (va_Qv post (fxC (fh_ok D ca A)) A) 0 0 A := by
  refine fx_start (by decide +kernel) (Nat.le_of_ble_eq_true rfl) ?_
  intro p e s m below meth c ls hx hb hr hml hown hts hlocks hnm hB hl
  exact sKXBL_init_in ⟨hx, hb, hr, hml, hown, hts, hlocks, hB.2.2.1, hB.2.2.2.1, hB.2.2.2.2, hB.2.1, hnm⟩ w a0 h _ _ ls hB.1 va_S.rf hl
def wKXAL_init (post : fh_T → Prop) (w : fh_T) (a0 : Nat) : Prop := (wKXBL_init (fun w_1 => (∃ q3 z2, w_1 q3 = some (.inl (4, 0, z2)) ∧ (∃ fs5, w_1 a0 = some (.inr (9, fs5)) ∧ 1 < fs5.length ∧ ∀ w6, w6 = fh_up w_1 a0 (.inr (9, fs5.set 1 (.ref q3))) → (post w6)))) w a0)
set_option maxRecDepth 100000 in
set_option maxHeartbeats 4000000 in
theorem sKXAL_init_in {p : Program} {l : Launch} {e : Env} {s : State} {m : MethodId} {args : Array Value} {below : List Frame} {meth : Method} {c : Code} {D : va_G} {ca : Nat → Nat} {A : Nat → Prop} {post : fh_T → Prop} (C0 : kCx p s m args meth c D ca A RXAL cXAL_init 1 none "<init>") : ∀ (w : fh_T) (a0 : Nat), wKXAL_init post w a0 → ∀ (H : Heap) (locs : List Loc) (ls : Array Slot), fh_ok D ca A w H → va_S A s.heap H locs → lv_has ls 1 [(0, .ref a0)] → W p l e ({ frames := 3, cells := 0, slots := 0, locals := 80 } : Room) s m args below meth c H locs 0 0 (MQ below (va_Qv post (fxC (fh_ok D ca A)) A) args s 0 0 A) (F0 m 0 ls []) := by
  obtain ⟨hx, hb, hr, hml, hown, hts, hlocks, hK, hN, hE, hA, hin⟩ := id C0
  intro w a0 h H locs ls hP hS hl
  replace h : (wKXBL_init (fun w_1 => (∃ q3 z2, w_1 q3 = some (.inl (4, 0, z2)) ∧ (∃ fs5, w_1 a0 = some (.inr (9, fs5)) ∧ 1 < fs5.length ∧ ∀ w6, w6 = fh_up w_1 a0 (.inr (9, fs5.set 1 (.ref q3))) → (post w6)))) w a0) := h
  refine lv_aload_n hx hb dXAL_init_0 rfl (lv_at hl 0 rfl) ?_
  refine va_callv (va_runI (As := []) (rest := []) ⟨hx, hb, hml, hown, hts⟩ (cKXBL_init h) (gc_XAL_1 hts hN ⟨Nat.le_of_ble_eq_true rfl, Nat.le_of_ble_eq_true rfl⟩) (k_preS hP hS hA hK hN hE) rfl rfl hl.1 rfl (lv_room (Nat.le_of_ble_eq_true rfl)) dXAL_init_1 ⟨Nat.le_of_ble_eq_true rfl, Nat.le_of_ble_eq_true rfl⟩) hS (fun _ _ q => q) (fun _ q => q) (fun w_1 t H locs ht hvm h hP hz hk hS => ?_)
  rw [fxC, ht] at hP
  refine lv_aload_n hx hb dXAL_init_4 rfl (lv_at hl 0 rfl) ?_
  obtain ⟨q3, z2, g4, h⟩ := h
  refine kgs hx hb hown (hts (.fieldLink RXAL 39 "java/util/ArrayList" "DEFAULTCAPACITY_EMPTY_ELEMENTDATA" "[Ljava/lang/Object;") (fx_m (by decide +kernel))) hE hS hP g4 dXAL_init_5 ?_
  obtain ⟨fs5, g7, g8, h⟩ := h
  obtain ⟨w6, ew6⟩ : ∃ y, y = fh_up w_1 a0 (.inr (9, fs5.set 1 (.ref q3))) := ⟨_, rfl⟩
  replace h := h w6 ew6
  refine kp_XAL_9 hx hb hown hts hN hK hP hS g7 g8 dXAL_init_8 (fun H locs hP hS => ?_)
  rw [← ew6] at hP
  exact W.vret hx hb hr (fun t ht hW => ⟨⟨_, rfl, h, by rw [fxC, ht]; exact hP⟩, hS.F ht⟩) hS.2.2 dXAL_init_11 hlocks
set_option maxRecDepth 100000 in
set_option maxHeartbeats 4000000 in
theorem cKXAL_init {l : Launch} {D : va_G} {ca : Nat → Nat} {A : Nat → Prop} {post : fh_T → Prop} {w : fh_T} {a0 : Nat} (h : wKXAL_init post w a0) : Met l yXAL_init (.code yXAL_init cXAL_init 1 none :: lg_tbl) ({ frames := 3, cells := 0, slots := 0, locals := 80 } : Room) (va_Pc [.ref a0] (kB D ca A w)) (va_Qv post (fxC (fh_ok D ca A)) A) 0 0 A := by
  refine fx_start (by decide +kernel) (Nat.le_of_ble_eq_true rfl) ?_
  intro p e s m below meth c ls hx hb hr hml hown hts hlocks hnm hB hl
  exact sKXAL_init_in ⟨hx, hb, hr, hml, hown, hts, hlocks, hB.2.2.1, hB.2.2.2.1, hB.2.2.2.2, hB.2.1, hnm⟩ w a0 h _ _ ls hB.1 va_S.rf hl
def wKXRe_init (post : fh_T → Prop) (w : fh_T) (mc : Nat) (ms : Nat) (a0 : Nat) (a1 : Nat) : Prop := (∃ mc3 ms4, mc = mc3 + 1 ∧ ms = ms4 + 2 ∧ ∀ q1, w q1 = none → ∀ w2, w2 = fh_up w q1 (.inr (3, [.null, .int 0])) → (∃ a6 b7 mc8 ms9, mc3 = mc8 + a6 ∧ ms4 = ms9 + b7 ∧ (wKXRo_init (fun w_5 => (∃ fs10, w_5 a0 = some (.inr (4, fs10)) ∧ 1 < fs10.length ∧ ∀ w11, w11 = fh_up w_5 a0 (.inr (4, fs10.set 1 (.ref q1))) → (∃ mc16 ms17, mc8 = mc16 + 1 ∧ ms9 = ms17 + 2 ∧ ∀ q14, w11 q14 = none → ∀ w15, w15 = fh_up w11 q14 (.inr (3, [.null, .int 0])) → (∃ a19 b20 mc21 ms22, mc16 = mc21 + a19 ∧ ms17 = ms22 + b20 ∧ (wKXRo_init (fun w_18 => (∃ fs23, w_18 a0 = some (.inr (4, fs23)) ∧ 2 < fs23.length ∧ ∀ w24, w24 = fh_up w_18 a0 (.inr (4, fs23.set 2 (.ref q14))) → (∃ mc29 ms30, mc21 = mc29 + 1 ∧ ms22 = ms30 + 3 ∧ ∀ q27, w24 q27 = none → ∀ w28, w28 = fh_up w24 q27 (.inr (9, [.int 0, .null, .int 0])) → (wKXAL_init (fun w_31 => (∃ fs32, w_31 a0 = some (.inr (4, fs32)) ∧ 3 < fs32.length ∧ ∀ w33, w33 = fh_up w_31 a0 (.inr (4, fs32.set 3 (.ref q27))) → (∃ fs36, w33 a0 = some (.inr (4, fs36)) ∧ 0 < fs36.length ∧ ∀ w37, w37 = fh_up w33 a0 (.inr (4, fs36.set 0 (.ref a1))) → (post w37)))) w28 q27)))) w15 a19 b20 q14))))) w2 a6 b7 q1)))
set_option maxRecDepth 100000 in
set_option maxHeartbeats 4000000 in
theorem sKXRe_init_in {p : Program} {l : Launch} {e : Env} {s : State} {m : MethodId} {args : Array Value} {below : List Frame} {meth : Method} {c : Code} {D : va_G} {ca : Nat → Nat} {A : Nat → Prop} {MC MS : Nat} {post : fh_T → Prop} (C0 : kCx p s m args meth c D ca A RXRe cXRe_init 2 none "<init>") : ∀ (w : fh_T) (mc : Nat) (ms : Nat) (a0 : Nat) (a1 : Nat), wKXRe_init post w mc ms a0 a1 → ∀ (H : Heap) (locs : List Loc) (ls : Array Slot), fh_ok D ca A w H → va_S A s.heap H locs → lv_has ls 2 [(0, .ref a0), (1, .ref a1)] → ∀ cells slots : Nat, cells + mc = MC → slots + ms = MS → W p l e ({ frames := 4, cells := MC, slots := MS, locals := 100 } : Room) s m args below meth c H locs cells slots (MQ below (va_Qv post (fxC (fh_ok D ca A)) A) args s MC MS A) (F0 m 0 ls []) := by
  obtain ⟨hx, hb, hr, hml, hown, hts, hlocks, hK, hN, hE, hA, hin⟩ := id C0
  intro w mc ms a0 a1 h H locs ls hP hS hl cells slots hbc hbs
  replace h : (∃ mc3 ms4, mc = mc3 + 1 ∧ ms = ms4 + 2 ∧ ∀ q1, w q1 = none → ∀ w2, w2 = fh_up w q1 (.inr (3, [.null, .int 0])) → (∃ a6 b7 mc8 ms9, mc3 = mc8 + a6 ∧ ms4 = ms9 + b7 ∧ (wKXRo_init (fun w_5 => (∃ fs10, w_5 a0 = some (.inr (4, fs10)) ∧ 1 < fs10.length ∧ ∀ w11, w11 = fh_up w_5 a0 (.inr (4, fs10.set 1 (.ref q1))) → (∃ mc16 ms17, mc8 = mc16 + 1 ∧ ms9 = ms17 + 2 ∧ ∀ q14, w11 q14 = none → ∀ w15, w15 = fh_up w11 q14 (.inr (3, [.null, .int 0])) → (∃ a19 b20 mc21 ms22, mc16 = mc21 + a19 ∧ ms17 = ms22 + b20 ∧ (wKXRo_init (fun w_18 => (∃ fs23, w_18 a0 = some (.inr (4, fs23)) ∧ 2 < fs23.length ∧ ∀ w24, w24 = fh_up w_18 a0 (.inr (4, fs23.set 2 (.ref q14))) → (∃ mc29 ms30, mc21 = mc29 + 1 ∧ ms22 = ms30 + 3 ∧ ∀ q27, w24 q27 = none → ∀ w28, w28 = fh_up w24 q27 (.inr (9, [.int 0, .null, .int 0])) → (wKXAL_init (fun w_31 => (∃ fs32, w_31 a0 = some (.inr (4, fs32)) ∧ 3 < fs32.length ∧ ∀ w33, w33 = fh_up w_31 a0 (.inr (4, fs32.set 3 (.ref q27))) → (∃ fs36, w33 a0 = some (.inr (4, fs36)) ∧ 0 < fs36.length ∧ ∀ w37, w37 = fh_up w33 a0 (.inr (4, fs36.set 0 (.ref a1))) → (post w37)))) w28 q27)))) w15 a19 b20 q14))))) w2 a6 b7 q1))) := h
  refine lv_aload_n hx hb dXRe_init_0 rfl (lv_at hl 0 rfl) ?_
  refine W.objInit hx hb hown (hts (.methodLink RXRe 3 objectInit) (fx_m (by decide +kernel))) (hts (.instanceMethod objectInit) (fx_m (by decide +kernel))) (hts _ fx_objc) rfl (by rw [hml]; exact hl.1) rfl dXRe_init_1 (Nat.le_of_ble_eq_true rfl) (Nat.le_of_ble_eq_true rfl) ?_
  refine lv_aload_n hx hb dXRe_init_4 rfl (lv_at hl 0 rfl) ?_
  obtain ⟨mc3, ms4, hm1, hm2, h⟩ := h
  refine ko_XRe_9 hx hb hown hts hK hE hP hS hA (show cells + 1 ≤ MC by omega) (show slots + 2 ≤ MS by omega) dXRe_init_5 (fun q1 H hq hP hS => ?_)
  obtain ⟨w2, ew2⟩ : ∃ y, y = fh_up w q1 (.inr (3, [.null, .int 0])) := ⟨_, rfl⟩
  replace h := h q1 hq w2 ew2
  rw [← ew2] at hP
  replace hbc : cells + 1 + mc3 = MC := by omega
  replace hbs : slots + 2 + ms4 = MS := by omega
  refine lv_dup hx hb dXRe_init_8 rfl ?_
  obtain ⟨a6, b7, mc8, ms9, hm1, hm2, h⟩ := h
  refine va_callv (va_runIN (As := []) (rest := [.ref q1, .ref a0]) ⟨hx, hb, hml, hown, hts⟩ (cKXRo_init h) (gc_XRe_11 hts hN ⟨Nat.le_of_ble_eq_true rfl, Nat.le_of_ble_eq_true rfl⟩) (k_preS hP hS hA hK hN hE) rfl rfl hl.1 rfl (lv_room (Nat.le_of_ble_eq_true rfl)) dXRe_init_9 ⟨show cells + 1 + a6 ≤ MC by omega, show slots + 2 + b7 ≤ MS by omega⟩) hS (fun _ _ q => q) (fun _ q => q) (fun w_5 t H locs ht hvm h hP hz hk hS => ?_)
  rw [fxC, ht] at hP
  refine W.cs (cells' := cells + 1 + a6) (slots' := slots + 2 + b7) rfl rfl ?_
  replace hbc : cells + 1 + a6 + mc8 = MC := by omega
  replace hbs : slots + 2 + b7 + ms9 = MS := by omega
  obtain ⟨fs10, g12, g13, h⟩ := h
  obtain ⟨w11, ew11⟩ : ∃ y, y = fh_up w_5 a0 (.inr (4, fs10.set 1 (.ref q1))) := ⟨_, rfl⟩
  replace h := h w11 ew11
  refine kf_XRe_12 hin hx hb hown hts hN hK hP hS g12 g13 dXRe_init_12 (fun H locs hP hS => ?_)
  rw [← ew11] at hP
  refine lv_aload_n hx hb dXRe_init_15 rfl (lv_at hl 0 rfl) ?_
  obtain ⟨mc16, ms17, hm1, hm2, h⟩ := h
  refine ko_XRe_9 hx hb hown hts hK hE hP hS hA (show cells + 1 + a6 + 1 ≤ MC by omega) (show slots + 2 + b7 + 2 ≤ MS by omega) dXRe_init_16 (fun q14 H hq hP hS => ?_)
  obtain ⟨w15, ew15⟩ : ∃ y, y = fh_up w11 q14 (.inr (3, [.null, .int 0])) := ⟨_, rfl⟩
  replace h := h q14 hq w15 ew15
  rw [← ew15] at hP
  replace hbc : cells + 1 + a6 + 1 + mc16 = MC := by omega
  replace hbs : slots + 2 + b7 + 2 + ms17 = MS := by omega
  refine lv_dup hx hb dXRe_init_19 rfl ?_
  obtain ⟨a19, b20, mc21, ms22, hm1, hm2, h⟩ := h
  refine va_callv (va_runIN (As := []) (rest := [.ref q14, .ref a0]) ⟨hx, hb, hml, hown, hts⟩ (cKXRo_init h) (gc_XRe_11 hts hN ⟨Nat.le_of_ble_eq_true rfl, Nat.le_of_ble_eq_true rfl⟩) (k_preS hP hS hA hK hN hE) rfl rfl hl.1 rfl (lv_room (Nat.le_of_ble_eq_true rfl)) dXRe_init_20 ⟨show cells + 1 + a6 + 1 + a19 ≤ MC by omega, show slots + 2 + b7 + 2 + b20 ≤ MS by omega⟩) hS (fun _ _ q => q) (fun _ q => q) (fun w_18 t H locs ht hvm h hP hz hk hS => ?_)
  rw [fxC, ht] at hP
  refine W.cs (cells' := cells + 1 + a6 + 1 + a19) (slots' := slots + 2 + b7 + 2 + b20) rfl rfl ?_
  replace hbc : cells + 1 + a6 + 1 + a19 + mc21 = MC := by omega
  replace hbs : slots + 2 + b7 + 2 + b20 + ms22 = MS := by omega
  obtain ⟨fs23, g25, g26, h⟩ := h
  obtain ⟨w24, ew24⟩ : ∃ y, y = fh_up w_18 a0 (.inr (4, fs23.set 2 (.ref q14))) := ⟨_, rfl⟩
  replace h := h w24 ew24
  refine kf_XRe_18 hin hx hb hown hts hN hK hP hS g25 g26 dXRe_init_23 (fun H locs hP hS => ?_)
  rw [← ew24] at hP
  refine lv_aload_n hx hb dXRe_init_26 rfl (lv_at hl 0 rfl) ?_
  obtain ⟨mc29, ms30, hm1, hm2, h⟩ := h
  refine ko_XRe_21 hx hb hown hts hK hE hP hS hA (show cells + 1 + a6 + 1 + a19 + 1 ≤ MC by omega) (show slots + 2 + b7 + 2 + b20 + 3 ≤ MS by omega) dXRe_init_27 (fun q27 H hq hP hS => ?_)
  obtain ⟨w28, ew28⟩ : ∃ y, y = fh_up w24 q27 (.inr (9, [.int 0, .null, .int 0])) := ⟨_, rfl⟩
  replace h := h q27 hq w28 ew28
  rw [← ew28] at hP
  replace hbc : cells + 1 + a6 + 1 + a19 + 1 + mc29 = MC := by omega
  replace hbs : slots + 2 + b7 + 2 + b20 + 3 + ms30 = MS := by omega
  refine lv_dup hx hb dXRe_init_30 rfl ?_
  refine va_callv (va_runI (As := []) (rest := [.ref q27, .ref a0]) ⟨hx, hb, hml, hown, hts⟩ (cKXAL_init h) (gc_XRe_23 hts hN ⟨Nat.le_of_ble_eq_true rfl, Nat.le_of_ble_eq_true rfl⟩) (k_preS hP hS hA hK hN hE) rfl rfl hl.1 rfl (lv_room (Nat.le_of_ble_eq_true rfl)) dXRe_init_31 ⟨show cells + 1 + a6 + 1 + a19 + 1 + 0 ≤ MC by omega, show slots + 2 + b7 + 2 + b20 + 3 + 0 ≤ MS by omega⟩) hS (fun _ _ q => q) (fun _ q => q) (fun w_31 t H locs ht hvm h hP hz hk hS => ?_)
  rw [fxC, ht] at hP
  refine W.cs (cells' := cells + 1 + a6 + 1 + a19 + 1) (slots' := slots + 2 + b7 + 2 + b20 + 3) rfl rfl ?_
  obtain ⟨fs32, g34, g35, h⟩ := h
  obtain ⟨w33, ew33⟩ : ∃ y, y = fh_up w_31 a0 (.inr (4, fs32.set 3 (.ref q27))) := ⟨_, rfl⟩
  replace h := h w33 ew33
  refine kf_XRe_24 hin hx hb hown hts hN hK hP hS g34 g35 dXRe_init_34 (fun H locs hP hS => ?_)
  rw [← ew33] at hP
  refine lv_aload_n hx hb dXRe_init_37 rfl (lv_at hl 0 rfl) ?_
  refine lv_aload_n hx hb dXRe_init_38 rfl (lv_at hl 1 rfl) ?_
  obtain ⟨fs36, g38, g39, h⟩ := h
  obtain ⟨w37, ew37⟩ : ∃ y, y = fh_up w33 a0 (.inr (4, fs36.set 0 (.ref a1))) := ⟨_, rfl⟩
  replace h := h w37 ew37
  refine kf_XRe_28 hin hx hb hown hts hN hK hP hS g38 g39 dXRe_init_39 (fun H locs hP hS => ?_)
  rw [← ew37] at hP
  refine W.widen (k := MC) (n := MS) (by omega) (by omega) ?_
  exact W.vret hx hb hr (fun t ht hW => ⟨⟨_, rfl, h, by rw [fxC, ht]; exact hP⟩, hS.F ht⟩) hS.2.2 dXRe_init_42 hlocks
set_option maxRecDepth 100000 in
set_option maxHeartbeats 4000000 in
theorem cKXRe_init {l : Launch} {D : va_G} {ca : Nat → Nat} {A : Nat → Prop} {post : fh_T → Prop} {w : fh_T} {mc : Nat} {ms : Nat} {a0 : Nat} {a1 : Nat} (h : wKXRe_init post w mc ms a0 a1) : Met l yXRe_init (.code yXRe_init cXRe_init 2 none :: lg_tbl) ({ frames := 4, cells := mc, slots := ms, locals := 100 } : Room) (va_Pc [.ref a0, .ref a1] (kB D ca A w)) (va_Qv post (fxC (fh_ok D ca A)) A) mc ms A := by
  refine fx_start (by decide +kernel) (Nat.le_of_ble_eq_true rfl) ?_
  intro p e s m below meth c ls hx hb hr hml hown hts hlocks hnm hB hl
  exact sKXRe_init_in ⟨hx, hb, hr, hml, hown, hts, hlocks, hB.2.2.1, hB.2.2.2.1, hB.2.2.2.2, hB.2.1, hnm⟩ w mc ms a0 a1 h _ _ ls hB.1 va_S.rf hl 0 0 (Nat.zero_add _) (Nat.zero_add _)
def wKXDr_init (post : fh_T → Prop) (w : fh_T) (mc : Nat) (ms : Nat) (a0 : Nat) : Prop := (∃ n3 mc4 ms5, ¬ (4 : Int32) < 0 ∧ Int32.toNatClampNeg 4 = n3 ∧ n3 * componentBytes .long ≤ 536870912 ∧ mc = mc4 + 1 ∧ ms = ms5 + n3 ∧ ∀ q1, w q1 = none → ∀ w2, w2 = fh_up w q1 (.inl (2, n3, .inr (.inl (fun _ => 0)))) → (∃ fs6, w2 a0 = some (.inr (6, fs6)) ∧ 5 < fs6.length ∧ ∀ w7, w7 = fh_up w2 a0 (.inr (6, fs6.set 5 (.ref q1))) → (post w7)))
set_option maxRecDepth 100000 in
set_option maxHeartbeats 4000000 in
theorem sKXDr_init_in {p : Program} {l : Launch} {e : Env} {s : State} {m : MethodId} {args : Array Value} {below : List Frame} {meth : Method} {c : Code} {D : va_G} {ca : Nat → Nat} {A : Nat → Prop} {MC MS : Nat} {post : fh_T → Prop} (C0 : kCx p s m args meth c D ca A RXDr cXDr_init 1 none "<init>") : ∀ (w : fh_T) (mc : Nat) (ms : Nat) (a0 : Nat), wKXDr_init post w mc ms a0 → ∀ (H : Heap) (locs : List Loc) (ls : Array Slot), fh_ok D ca A w H → va_S A s.heap H locs → lv_has ls 1 [(0, .ref a0)] → ∀ cells slots : Nat, cells + mc = MC → slots + ms = MS → W p l e ({ frames := 1, cells := MC, slots := MS, locals := 40 } : Room) s m args below meth c H locs cells slots (MQ below (va_Qv post (fxC (fh_ok D ca A)) A) args s MC MS A) (F0 m 0 ls []) := by
  obtain ⟨hx, hb, hr, hml, hown, hts, hlocks, hK, hN, hE, hA, hin⟩ := id C0
  intro w mc ms a0 h H locs ls hP hS hl cells slots hbc hbs
  replace h : (∃ n3 mc4 ms5, ¬ (4 : Int32) < 0 ∧ Int32.toNatClampNeg 4 = n3 ∧ n3 * componentBytes .long ≤ 536870912 ∧ mc = mc4 + 1 ∧ ms = ms5 + n3 ∧ ∀ q1, w q1 = none → ∀ w2, w2 = fh_up w q1 (.inl (2, n3, .inr (.inl (fun _ => 0)))) → (∃ fs6, w2 a0 = some (.inr (6, fs6)) ∧ 5 < fs6.length ∧ ∀ w7, w7 = fh_up w2 a0 (.inr (6, fs6.set 5 (.ref q1))) → (post w7))) := h
  refine lv_aload_n hx hb dXDr_init_0 rfl (lv_at hl 0 rfl) ?_
  refine W.objInit hx hb hown (hts (.methodLink RXDr 3 objectInit) (fx_m (by decide +kernel))) (hts (.instanceMethod objectInit) (fx_m (by decide +kernel))) (hts _ fx_objc) rfl (by rw [hml]; exact hl.1) rfl dXDr_init_1 (Nat.le_of_ble_eq_true rfl) (Nat.le_of_ble_eq_true rfl) ?_
  refine lv_aload_n hx hb dXDr_init_4 rfl (lv_at hl 0 rfl) ?_
  refine lv_iconst (v := 4) hx hb dXDr_init_5 (by decide) ?_
  obtain ⟨n3, mc4, ms5, hn1, hn2, hn3, hm1, hm2, h⟩ := h
  refine klnew hx hb hts hK hE hP hS hA hn1 hn2 hn3 (show cells + 1 ≤ MC by omega) (show slots + n3 ≤ MS by omega) dXDr_init_6 (fun q1 H hq hP hS => ?_)
  obtain ⟨w2, ew2⟩ : ∃ y, y = fh_up w q1 (.inl (2, n3, .inr (.inl (fun _ => 0)))) := ⟨_, rfl⟩
  replace h := h q1 hq w2 ew2
  rw [← ew2] at hP
  replace hbc : cells + 1 + mc4 = MC := by omega
  replace hbs : slots + n3 + ms5 = MS := by omega
  obtain ⟨fs6, g8, g9, h⟩ := h
  obtain ⟨w7, ew7⟩ : ∃ y, y = fh_up w2 a0 (.inr (6, fs6.set 5 (.ref q1))) := ⟨_, rfl⟩
  replace h := h w7 ew7
  refine kf_XDr_9 hin hx hb hown hts hN hK hP hS g8 g9 dXDr_init_8 (fun H locs hP hS => ?_)
  rw [← ew7] at hP
  refine W.widen (k := MC) (n := MS) (by omega) (by omega) ?_
  exact W.vret hx hb hr (fun t ht hW => ⟨⟨_, rfl, h, by rw [fxC, ht]; exact hP⟩, hS.F ht⟩) hS.2.2 dXDr_init_11 hlocks
set_option maxRecDepth 100000 in
set_option maxHeartbeats 4000000 in
theorem cKXDr_init {l : Launch} {D : va_G} {ca : Nat → Nat} {A : Nat → Prop} {post : fh_T → Prop} {w : fh_T} {mc : Nat} {ms : Nat} {a0 : Nat} (h : wKXDr_init post w mc ms a0) : Met l yXDr_init (.code yXDr_init cXDr_init 1 none :: lg_tbl) ({ frames := 1, cells := mc, slots := ms, locals := 40 } : Room) (va_Pc [.ref a0] (kB D ca A w)) (va_Qv post (fxC (fh_ok D ca A)) A) mc ms A := by
  refine fx_start (by decide +kernel) (Nat.le_of_ble_eq_true rfl) ?_
  intro p e s m below meth c ls hx hb hr hml hown hts hlocks hnm hB hl
  exact sKXDr_init_in ⟨hx, hb, hr, hml, hown, hts, hlocks, hB.2.2.1, hB.2.2.2.1, hB.2.2.2.2, hB.2.1, hnm⟩ w mc ms a0 h _ _ ls hB.1 va_S.rf hl 0 0 (Nat.zero_add _) (Nat.zero_add _)
noncomputable def wKXW_init_25 (post : fh_T → Prop) (n : Nat) : fh_T → Nat → Nat → Nat → Int32 → Prop := Nat.rec (motive := fun _ => fh_T → Nat → Nat → Nat → Int32 → Prop) (fun _ _ _ _ _ => False) (fun _ K25 w mc ms v0 v1 => ((4 ≤ v1 → (∃ mc26 ms27, mc = mc26 + 1 ∧ ms = ms27 + 6 ∧ ∀ q24, w q24 = none → ∀ w25, w25 = fh_up w q24 (.inr (6, [.int 0, .int 0, .int 0, .int 0, .int 0, .null])) → (∃ a29 b30 mc31 ms32, mc26 = mc31 + a29 ∧ ms27 = ms32 + b30 ∧ (wKXDr_init (fun w_28 => (∃ fs33, w_28 v0 = some (.inr (1, fs33)) ∧ 2 < fs33.length ∧ ∀ w34, w34 = fh_up w_28 v0 (.inr (1, fs33.set 2 (.ref q24))) → (∃ mc39 ms40, mc31 = mc39 + 1 ∧ ms32 = ms40 + 6 ∧ ∀ q37, w34 q37 = none → ∀ w38, w38 = fh_up w34 q37 (.inr (6, [.int 0, .int 0, .int 0, .int 0, .int 0, .null])) → (∃ a42 b43 mc44 ms45, mc39 = mc44 + a42 ∧ ms40 = ms45 + b43 ∧ (wKXDr_init (fun w_41 => (∃ fs46, w_41 v0 = some (.inr (1, fs46)) ∧ 3 < fs46.length ∧ ∀ w47, w47 = fh_up w_41 v0 (.inr (1, fs46.set 3 (.ref q37))) → (post w47))) w38 a42 b43 q37))))) w25 a29 b30 q24)))) ∧ (¬ 4 ≤ v1 → (∃ x50, fh_g w v0 1 1 (.ref x50) ∧ (∃ mc54 ms55, mc = mc54 + 1 ∧ ms = ms55 + 5 ∧ ∀ q52, w q52 = none → ∀ w53, w53 = fh_up w q52 (.inr (4, [.null, .null, .null, .null, .long 0])) → (∃ x56, fh_g w53 v0 1 0 (.ref x56) ∧ (∃ a59 b60 mc61 ms62, mc54 = mc61 + a59 ∧ ms55 = ms62 + b60 ∧ (wKXRe_init (fun w_58 => (∃ n63 f64 fs68, w_58 x50 = some (.inl (1, n63, .inr (.inr (.inr (.inr f64))))) ∧ w_58 q52 = some (.inr (4, fs68)) ∧ vp_in v1 n63 ∧ ∀ w67, w67 = fh_up w_58 x50 (.inl (1, n63, .inr (.inr (.inr (.inr (va_up f64 (Int32.toNatClampNeg v1) (some q52))))))) → (K25 w67 mc61 ms62 v0 (v1 + 1)))) w53 a59 b60 q52 x56)))))))) n
def wKXW_init (post : fh_T → Prop) (w : fh_T) (mc : Nat) (ms : Nat) (a0 : Nat) : Prop := (∃ mc3 ms4, mc = mc3 + 1 ∧ ms = ms4 + 1 ∧ ∀ q1, w q1 = none → ∀ w2, w2 = fh_up w q1 (.inr (2, [.null])) → (∃ a6 b7 mc8 ms9, mc3 = mc8 + a6 ∧ ms4 = ms9 + b7 ∧ (wKXKn_init (fun w_5 => (∃ fs10, w_5 a0 = some (.inr (1, fs10)) ∧ 0 < fs10.length ∧ ∀ w11, w11 = fh_up w_5 a0 (.inr (1, fs10.set 0 (.ref q1))) → (∃ n16 mc17 ms18, ¬ (4 : Int32) < 0 ∧ Int32.toNatClampNeg 4 = n16 ∧ n16 * 4 ≤ 536870912 ∧ mc8 = mc17 + 1 ∧ ms9 = ms18 + n16 ∧ ∀ q14, w11 q14 = none → ∀ w15, w15 = fh_up w11 q14 (.inl (1, n16, .inr (.inr (.inr (.inr (fun _ => none)))))) → (∃ fs19, w15 a0 = some (.inr (1, fs19)) ∧ 1 < fs19.length ∧ ∀ w20, w20 = fh_up w15 a0 (.inr (1, fs19.set 1 (.ref q14))) → (∃ k, wKXW_init_25 post  k w20 mc17 ms18 a0 0))))) w2 a6 b7 q1)))
set_option maxRecDepth 100000 in
set_option maxHeartbeats 4000000 in
theorem sKXW_init_25 {p : Program} {l : Launch} {e : Env} {s : State} {m : MethodId} {args : Array Value} {below : List Frame} {meth : Method} {c : Code} {D : va_G} {ca : Nat → Nat} {A : Nat → Prop} {MC MS : Nat} {post : fh_T → Prop} (C0 : kCx p s m args meth c D ca A RXW cXW_init 2 none "<init>") : ∀ (n : Nat) (w : fh_T) (mc : Nat) (ms : Nat) (v0 : Nat) (v1 : Int32), wKXW_init_25 post  n w mc ms v0 v1 → ∀ (H : Heap) (locs : List Loc) (ls : Array Slot), fh_ok D ca A w H → va_S A s.heap H locs → lv_has ls 2 [(0, .ref v0), (1, .int v1)] → ∀ cells slots : Nat, cells + mc = MC → slots + ms = MS → W p l e ({ frames := 5, cells := MC, slots := MS, locals := 121 } : Room) s m args below meth c H locs cells slots (MQ below (va_Qv post (fxC (fh_ok D ca A)) A) args s MC MS A) (F0 m 25 ls []) := by
  obtain ⟨hx, hb, hr, hml, hown, hts, hlocks, hK, hN, hE, hA, hin⟩ := id C0
  intro n
  induction n with
  | zero => exact fun _ _ _ _ _ h => h.elim
  | succ n hK25 =>
    intro w mc ms v0 v1 h H locs ls hP hS hl cells slots hbc hbs
    replace h : ((4 ≤ v1 → (∃ mc26 ms27, mc = mc26 + 1 ∧ ms = ms27 + 6 ∧ ∀ q24, w q24 = none → ∀ w25, w25 = fh_up w q24 (.inr (6, [.int 0, .int 0, .int 0, .int 0, .int 0, .null])) → (∃ a29 b30 mc31 ms32, mc26 = mc31 + a29 ∧ ms27 = ms32 + b30 ∧ (wKXDr_init (fun w_28 => (∃ fs33, w_28 v0 = some (.inr (1, fs33)) ∧ 2 < fs33.length ∧ ∀ w34, w34 = fh_up w_28 v0 (.inr (1, fs33.set 2 (.ref q24))) → (∃ mc39 ms40, mc31 = mc39 + 1 ∧ ms32 = ms40 + 6 ∧ ∀ q37, w34 q37 = none → ∀ w38, w38 = fh_up w34 q37 (.inr (6, [.int 0, .int 0, .int 0, .int 0, .int 0, .null])) → (∃ a42 b43 mc44 ms45, mc39 = mc44 + a42 ∧ ms40 = ms45 + b43 ∧ (wKXDr_init (fun w_41 => (∃ fs46, w_41 v0 = some (.inr (1, fs46)) ∧ 3 < fs46.length ∧ ∀ w47, w47 = fh_up w_41 v0 (.inr (1, fs46.set 3 (.ref q37))) → (post w47))) w38 a42 b43 q37))))) w25 a29 b30 q24)))) ∧ (¬ 4 ≤ v1 → (∃ x50, fh_g w v0 1 1 (.ref x50) ∧ (∃ mc54 ms55, mc = mc54 + 1 ∧ ms = ms55 + 5 ∧ ∀ q52, w q52 = none → ∀ w53, w53 = fh_up w q52 (.inr (4, [.null, .null, .null, .null, .long 0])) → (∃ x56, fh_g w53 v0 1 0 (.ref x56) ∧ (∃ a59 b60 mc61 ms62, mc54 = mc61 + a59 ∧ ms55 = ms62 + b60 ∧ (wKXRe_init (fun w_58 => (∃ n63 f64 fs68, w_58 x50 = some (.inl (1, n63, .inr (.inr (.inr (.inr f64))))) ∧ w_58 q52 = some (.inr (4, fs68)) ∧ vp_in v1 n63 ∧ ∀ w67, w67 = fh_up w_58 x50 (.inl (1, n63, .inr (.inr (.inr (.inr (va_up f64 (Int32.toNatClampNeg v1) (some q52))))))) → ((wKXW_init_25 post  n) w67 mc61 ms62 v0 (v1 + 1)))) w53 a59 b60 q52 x56))))))) := h
    refine lv_iload_n hx hb dXW_init_25 rfl (lv_at hl 1 rfl) ?_
    refine lv_iconst (v := 4) hx hb dXW_init_26 (by decide) ?_
    refine lv_icmp_ge (tgt := 53) hx hb dXW_init_27 (by decide) (fun c23 => ?_) (fun c23 => ?_)
    · replace h := h.1 c23
      refine lv_aload_n hx hb dXW_init_53 rfl (lv_at hl 0 rfl) ?_
      obtain ⟨mc26, ms27, hm1, hm2, h⟩ := h
      refine ko_XW_25 hx hb hown hts hK hE hP hS hA (show cells + 1 ≤ MC by omega) (show slots + 6 ≤ MS by omega) dXW_init_54 (fun q24 H hq hP hS => ?_)
      obtain ⟨w25, ew25⟩ : ∃ y, y = fh_up w q24 (.inr (6, [.int 0, .int 0, .int 0, .int 0, .int 0, .null])) := ⟨_, rfl⟩
      replace h := h q24 hq w25 ew25
      rw [← ew25] at hP
      replace hbc : cells + 1 + mc26 = MC := by omega
      replace hbs : slots + 6 + ms27 = MS := by omega
      refine lv_dup hx hb dXW_init_57 rfl ?_
      obtain ⟨a29, b30, mc31, ms32, hm1, hm2, h⟩ := h
      refine va_callv (va_runIN (As := []) (rest := [.ref q24, .ref v0]) ⟨hx, hb, hml, hown, hts⟩ (cKXDr_init h) (gc_XW_27 hts hN ⟨Nat.le_of_ble_eq_true rfl, Nat.le_of_ble_eq_true rfl⟩) (k_preS hP hS hA hK hN hE) rfl rfl hl.1 rfl (lv_room (Nat.le_of_ble_eq_true rfl)) dXW_init_58 ⟨show cells + 1 + a29 ≤ MC by omega, show slots + 6 + b30 ≤ MS by omega⟩) hS (fun _ _ q => q) (fun _ q => q) (fun w_28 t H locs ht hvm h hP hz hk hS => ?_)
      rw [fxC, ht] at hP
      refine W.cs (cells' := cells + 1 + a29) (slots' := slots + 6 + b30) rfl rfl ?_
      replace hbc : cells + 1 + a29 + mc31 = MC := by omega
      replace hbs : slots + 6 + b30 + ms32 = MS := by omega
      obtain ⟨fs33, g35, g36, h⟩ := h
      obtain ⟨w34, ew34⟩ : ∃ y, y = fh_up w_28 v0 (.inr (1, fs33.set 2 (.ref q24))) := ⟨_, rfl⟩
      replace h := h w34 ew34
      refine kf_XW_28 hin hx hb hown hts hN hK hP hS g35 g36 dXW_init_61 (fun H locs hP hS => ?_)
      rw [← ew34] at hP
      refine lv_aload_n hx hb dXW_init_64 rfl (lv_at hl 0 rfl) ?_
      obtain ⟨mc39, ms40, hm1, hm2, h⟩ := h
      refine ko_XW_25 hx hb hown hts hK hE hP hS hA (show cells + 1 + a29 + 1 ≤ MC by omega) (show slots + 6 + b30 + 6 ≤ MS by omega) dXW_init_65 (fun q37 H hq hP hS => ?_)
      obtain ⟨w38, ew38⟩ : ∃ y, y = fh_up w34 q37 (.inr (6, [.int 0, .int 0, .int 0, .int 0, .int 0, .null])) := ⟨_, rfl⟩
      replace h := h q37 hq w38 ew38
      rw [← ew38] at hP
      replace hbc : cells + 1 + a29 + 1 + mc39 = MC := by omega
      replace hbs : slots + 6 + b30 + 6 + ms40 = MS := by omega
      refine lv_dup hx hb dXW_init_68 rfl ?_
      obtain ⟨a42, b43, mc44, ms45, hm1, hm2, h⟩ := h
      refine va_callv (va_runIN (As := []) (rest := [.ref q37, .ref v0]) ⟨hx, hb, hml, hown, hts⟩ (cKXDr_init h) (gc_XW_27 hts hN ⟨Nat.le_of_ble_eq_true rfl, Nat.le_of_ble_eq_true rfl⟩) (k_preS hP hS hA hK hN hE) rfl rfl hl.1 rfl (lv_room (Nat.le_of_ble_eq_true rfl)) dXW_init_69 ⟨show cells + 1 + a29 + 1 + a42 ≤ MC by omega, show slots + 6 + b30 + 6 + b43 ≤ MS by omega⟩) hS (fun _ _ q => q) (fun _ q => q) (fun w_41 t H locs ht hvm h hP hz hk hS => ?_)
      rw [fxC, ht] at hP
      refine W.cs (cells' := cells + 1 + a29 + 1 + a42) (slots' := slots + 6 + b30 + 6 + b43) rfl rfl ?_
      replace hbc : cells + 1 + a29 + 1 + a42 + mc44 = MC := by omega
      replace hbs : slots + 6 + b30 + 6 + b43 + ms45 = MS := by omega
      obtain ⟨fs46, g48, g49, h⟩ := h
      obtain ⟨w47, ew47⟩ : ∃ y, y = fh_up w_41 v0 (.inr (1, fs46.set 3 (.ref q37))) := ⟨_, rfl⟩
      replace h := h w47 ew47
      refine kf_XW_32 hin hx hb hown hts hN hK hP hS g48 g49 dXW_init_72 (fun H locs hP hS => ?_)
      rw [← ew47] at hP
      refine W.widen (k := MC) (n := MS) (by omega) (by omega) ?_
      exact W.vret hx hb hr (fun t ht hW => ⟨⟨_, rfl, h, by rw [fxC, ht]; exact hP⟩, hS.F ht⟩) hS.2.2 dXW_init_75 hlocks
    · replace h := h.2 c23
      refine lv_aload_n hx hb dXW_init_30 rfl (lv_at hl 0 rfl) ?_
      obtain ⟨x50, g51, h⟩ := h
      refine kg_XW_18 hx hb hown hts hN hK hP g51 dXW_init_31 ?_
      refine lv_iload_n hx hb dXW_init_34 rfl (lv_at hl 1 rfl) ?_
      obtain ⟨mc54, ms55, hm1, hm2, h⟩ := h
      refine ko_XW_16 hx hb hown hts hK hE hP hS hA (show cells + 1 ≤ MC by omega) (show slots + 5 ≤ MS by omega) dXW_init_35 (fun q52 H hq hP hS => ?_)
      obtain ⟨w53, ew53⟩ : ∃ y, y = fh_up w q52 (.inr (4, [.null, .null, .null, .null, .long 0])) := ⟨_, rfl⟩
      replace h := h q52 hq w53 ew53
      rw [← ew53] at hP
      replace hbc : cells + 1 + mc54 = MC := by omega
      replace hbs : slots + 5 + ms55 = MS := by omega
      refine lv_dup hx hb dXW_init_38 rfl ?_
      refine lv_aload_n hx hb dXW_init_39 rfl (lv_at hl 0 rfl) ?_
      obtain ⟨x56, g57, h⟩ := h
      refine kg_XW_10 hx hb hown hts hN hK hP g57 dXW_init_40 ?_
      obtain ⟨a59, b60, mc61, ms62, hm1, hm2, h⟩ := h
      refine va_callv (va_runI (As := [.ref x56]) (rest := [.ref q52, .int v1, .ref x50]) ⟨hx, hb, hml, hown, hts⟩ (cKXRe_init h) (gc_XW_22 hts hN ⟨Nat.le_of_ble_eq_true rfl, Nat.le_of_ble_eq_true rfl⟩) (k_preS hP hS hA hK hN hE) rfl rfl hl.1 rfl (lv_room (Nat.le_of_ble_eq_true rfl)) dXW_init_43 ⟨show cells + 1 + a59 ≤ MC by omega, show slots + 5 + b60 ≤ MS by omega⟩) hS (fun _ _ q => q) (fun _ q => q) (fun w_58 t H locs ht hvm h hP hz hk hS => ?_)
      rw [fxC, ht] at hP
      refine W.cs (cells' := cells + 1 + a59) (slots' := slots + 5 + b60) rfl rfl ?_
      replace hbc : cells + 1 + a59 + mc61 = MC := by omega
      replace hbs : slots + 5 + b60 + ms62 = MS := by omega
      obtain ⟨n63, f64, fs68, g65, g69, g66, h⟩ := h
      obtain ⟨w67, ew67⟩ : ∃ y, y = fh_up w_58 x50 (.inl (1, n63, .inr (.inr (.inr (.inr (va_up f64 (Int32.toNatClampNeg v1) (some q52))))))) := ⟨_, rfl⟩
      replace h := h w67 ew67
      refine kas 1 (ci := 4) rfl rfl rfl hx hb hK hP hS g65 g69 g66 dXW_init_46 (fun H locs hP hS => ?_)
      rw [← ew67] at hP
      refine lv_iinc (v := v1 + 1) (lv' := [(1, .int (v1 + 1)), (0, .ref v0)]) hx hb dXW_init_47 hl (k := 1) rfl rfl (by decide) rfl (fun ls hl => ?_)
      refine lv_goto (tgt := 25) hx hb dXW_init_50 (by decide) ?_
      exact hK25 w67 mc61 ms62 v0 (v1 + 1) h H locs ls hP hS (lv_sub hl [1, 0] rfl) _ _ hbc hbs
set_option maxRecDepth 100000 in
set_option maxHeartbeats 4000000 in
theorem sKXW_init_in {p : Program} {l : Launch} {e : Env} {s : State} {m : MethodId} {args : Array Value} {below : List Frame} {meth : Method} {c : Code} {D : va_G} {ca : Nat → Nat} {A : Nat → Prop} {MC MS : Nat} {post : fh_T → Prop} (C0 : kCx p s m args meth c D ca A RXW cXW_init 2 none "<init>") : ∀ (w : fh_T) (mc : Nat) (ms : Nat) (a0 : Nat), wKXW_init post w mc ms a0 → ∀ (H : Heap) (locs : List Loc) (ls : Array Slot), fh_ok D ca A w H → va_S A s.heap H locs → lv_has ls 2 [(0, .ref a0)] → ∀ cells slots : Nat, cells + mc = MC → slots + ms = MS → W p l e ({ frames := 5, cells := MC, slots := MS, locals := 121 } : Room) s m args below meth c H locs cells slots (MQ below (va_Qv post (fxC (fh_ok D ca A)) A) args s MC MS A) (F0 m 0 ls []) := by
  obtain ⟨hx, hb, hr, hml, hown, hts, hlocks, hK, hN, hE, hA, hin⟩ := id C0
  intro w mc ms a0 h H locs ls hP hS hl cells slots hbc hbs
  replace h : (∃ mc3 ms4, mc = mc3 + 1 ∧ ms = ms4 + 1 ∧ ∀ q1, w q1 = none → ∀ w2, w2 = fh_up w q1 (.inr (2, [.null])) → (∃ a6 b7 mc8 ms9, mc3 = mc8 + a6 ∧ ms4 = ms9 + b7 ∧ (wKXKn_init (fun w_5 => (∃ fs10, w_5 a0 = some (.inr (1, fs10)) ∧ 0 < fs10.length ∧ ∀ w11, w11 = fh_up w_5 a0 (.inr (1, fs10.set 0 (.ref q1))) → (∃ n16 mc17 ms18, ¬ (4 : Int32) < 0 ∧ Int32.toNatClampNeg 4 = n16 ∧ n16 * 4 ≤ 536870912 ∧ mc8 = mc17 + 1 ∧ ms9 = ms18 + n16 ∧ ∀ q14, w11 q14 = none → ∀ w15, w15 = fh_up w11 q14 (.inl (1, n16, .inr (.inr (.inr (.inr (fun _ => none)))))) → (∃ fs19, w15 a0 = some (.inr (1, fs19)) ∧ 1 < fs19.length ∧ ∀ w20, w20 = fh_up w15 a0 (.inr (1, fs19.set 1 (.ref q14))) → (∃ k, wKXW_init_25 post  k w20 mc17 ms18 a0 0))))) w2 a6 b7 q1))) := h
  refine lv_aload_n hx hb dXW_init_0 rfl (lv_at hl 0 rfl) ?_
  refine W.objInit hx hb hown (hts (.methodLink RXW 1 objectInit) (fx_m (by decide +kernel))) (hts (.instanceMethod objectInit) (fx_m (by decide +kernel))) (hts _ fx_objc) rfl (by rw [hml]; exact hl.1) rfl dXW_init_1 (Nat.le_of_ble_eq_true rfl) (Nat.le_of_ble_eq_true rfl) ?_
  refine lv_aload_n hx hb dXW_init_4 rfl (lv_at hl 0 rfl) ?_
  obtain ⟨mc3, ms4, hm1, hm2, h⟩ := h
  refine ko_XW_7 hx hb hown hts hK hE hP hS hA (show cells + 1 ≤ MC by omega) (show slots + 1 ≤ MS by omega) dXW_init_5 (fun q1 H hq hP hS => ?_)
  obtain ⟨w2, ew2⟩ : ∃ y, y = fh_up w q1 (.inr (2, [.null])) := ⟨_, rfl⟩
  replace h := h q1 hq w2 ew2
  rw [← ew2] at hP
  replace hbc : cells + 1 + mc3 = MC := by omega
  replace hbs : slots + 1 + ms4 = MS := by omega
  refine lv_dup hx hb dXW_init_8 rfl ?_
  obtain ⟨a6, b7, mc8, ms9, hm1, hm2, h⟩ := h
  refine va_callv (va_runIN (As := []) (rest := [.ref q1, .ref a0]) ⟨hx, hb, hml, hown, hts⟩ (cKXKn_init h) (gc_XW_9 hts hN ⟨Nat.le_of_ble_eq_true rfl, Nat.le_of_ble_eq_true rfl⟩) (k_preS hP hS hA hK hN hE) rfl rfl hl.1 rfl (lv_room (Nat.le_of_ble_eq_true rfl)) dXW_init_9 ⟨show cells + 1 + a6 ≤ MC by omega, show slots + 1 + b7 ≤ MS by omega⟩) hS (fun _ _ q => q) (fun _ q => q) (fun w_5 t H locs ht hvm h hP hz hk hS => ?_)
  rw [fxC, ht] at hP
  refine W.cs (cells' := cells + 1 + a6) (slots' := slots + 1 + b7) rfl rfl ?_
  replace hbc : cells + 1 + a6 + mc8 = MC := by omega
  replace hbs : slots + 1 + b7 + ms9 = MS := by omega
  obtain ⟨fs10, g12, g13, h⟩ := h
  obtain ⟨w11, ew11⟩ : ∃ y, y = fh_up w_5 a0 (.inr (1, fs10.set 0 (.ref q1))) := ⟨_, rfl⟩
  replace h := h w11 ew11
  refine kf_XW_10 hin hx hb hown hts hN hK hP hS g12 g13 dXW_init_12 (fun H locs hP hS => ?_)
  rw [← ew11] at hP
  refine lv_aload_n hx hb dXW_init_15 rfl (lv_at hl 0 rfl) ?_
  refine lv_iconst (v := 4) hx hb dXW_init_16 (by decide) ?_
  obtain ⟨n16, mc17, ms18, hn1, hn2, hn3, hm1, hm2, h⟩ := h
  refine kqnew 1 rfl rfl hx hb hown (hts (.classLink RXW 16 "HashLinkedWeb$Replica") (fx_m (by decide +kernel))) (hN.use (args := #[]) (w := .arrayOver (.object "HashLinkedWeb$Replica")) (by decide +kernel)) hK hE hP hS hA hn1 hn2 hn3 (show cells + 1 + a6 + 1 ≤ MC by omega) (show slots + 1 + b7 + n16 ≤ MS by omega) dXW_init_17 (fun q14 H hq hP hS => ?_)
  obtain ⟨w15, ew15⟩ : ∃ y, y = fh_up w11 q14 (.inl (1, n16, .inr (.inr (.inr (.inr (fun _ => none)))))) := ⟨_, rfl⟩
  replace h := h q14 hq w15 ew15
  rw [← ew15] at hP
  replace hbc : cells + 1 + a6 + 1 + mc17 = MC := by omega
  replace hbs : slots + 1 + b7 + n16 + ms18 = MS := by omega
  obtain ⟨fs19, g21, g22, h⟩ := h
  obtain ⟨w20, ew20⟩ : ∃ y, y = fh_up w15 a0 (.inr (1, fs19.set 1 (.ref q14))) := ⟨_, rfl⟩
  replace h := h w20 ew20
  refine kf_XW_18 hin hx hb hown hts hN hK hP hS g21 g22 dXW_init_20 (fun H locs hP hS => ?_)
  rw [← ew20] at hP
  refine lv_iconst (v := 0) hx hb dXW_init_23 (by decide) ?_
  refine lv_istore_n (lv' := [(1, .int 0), (0, .ref a0)]) hx hb dXW_init_24 rfl hl (by decide) rfl (fun ls hl => ?_)
  obtain ⟨k, h⟩ := h
  exact sKXW_init_25  C0  k w20 mc17 ms18 a0 0 h H locs ls hP hS (lv_sub hl [1, 0] rfl) _ _ hbc hbs
set_option maxRecDepth 100000 in
set_option maxHeartbeats 4000000 in
theorem cKXW_init {l : Launch} {D : va_G} {ca : Nat → Nat} {A : Nat → Prop} {post : fh_T → Prop} {w : fh_T} {mc : Nat} {ms : Nat} {a0 : Nat} (h : wKXW_init post w mc ms a0) : Met l yXW_init (.code yXW_init cXW_init 2 none :: lg_tbl) ({ frames := 5, cells := mc, slots := ms, locals := 121 } : Room) (va_Pc [.ref a0] (kB D ca A w)) (va_Qv post (fxC (fh_ok D ca A)) A) mc ms A := by
  refine fx_start (by decide +kernel) (Nat.le_of_ble_eq_true rfl) ?_
  intro p e s m below meth c ls hx hb hr hml hown hts hlocks hnm hB hl
  exact sKXW_init_in ⟨hx, hb, hr, hml, hown, hts, hlocks, hB.2.2.1, hB.2.2.2.1, hB.2.2.2.2, hB.2.1, hnm⟩ w mc ms a0 h _ _ ls hB.1 va_S.rf hl 0 0 (Nat.zero_add _) (Nat.zero_add _)
def wKXW_replicaAt (post : Option Nat → fh_T → Prop) (w : fh_T) (a0 : Nat) (a1 : Int32) : Prop := ((a1 < 0 → (post none w)) ∧ (¬ a1 < 0 → ((a1 < 4 → (∃ x3, fh_g w a0 1 1 (.ref x3) ∧ (∃ n5 f6 y7, w x3 = some (.inl (1, n5, .inr (.inr (.inr (.inr f6))))) ∧ vp_in a1 n5 ∧ f6 (Int32.toNatClampNeg a1) = some y7 ∧ (post (some y7) w)))) ∧ (¬ a1 < 4 → (post none w)))))
set_option maxRecDepth 100000 in
set_option maxHeartbeats 4000000 in
theorem sKXW_replicaAt_in {p : Program} {l : Launch} {e : Env} {s : State} {m : MethodId} {args : Array Value} {below : List Frame} {meth : Method} {c : Code} {D : va_G} {ca : Nat → Nat} {A : Nat → Prop} {post : Option Nat → fh_T → Prop} (C0 : kCx p s m args meth c D ca A RXW cXW_replicaAt 2 (some (.object "HashLinkedWeb$Replica")) "replicaAt") : ∀ (w : fh_T) (a0 : Nat) (a1 : Int32), wKXW_replicaAt post w a0 a1 → ∀ (H : Heap) (locs : List Loc) (ls : Array Slot), fh_ok D ca A w H → va_S A s.heap H locs → lv_has ls 2 [(0, .ref a0), (1, .int a1)] → W p l e ({ frames := 0, cells := 0, slots := 0, locals := 0 } : Room) s m args below meth c H locs 0 0 (MQ below (va_Qe (fun x => x) post (fxC (fh_ok D ca A)) A) args s 0 0 A) (F0 m 0 ls []) := by
  obtain ⟨hx, hb, hr, hml, hown, hts, hlocks, hK, hN, hE, hA, hin⟩ := id C0
  intro w a0 a1 h H locs ls hP hS hl
  replace h : ((a1 < 0 → (post none w)) ∧ (¬ a1 < 0 → ((a1 < 4 → (∃ x3, fh_g w a0 1 1 (.ref x3) ∧ (∃ n5 f6 y7, w x3 = some (.inl (1, n5, .inr (.inr (.inr (.inr f6))))) ∧ vp_in a1 n5 ∧ f6 (Int32.toNatClampNeg a1) = some y7 ∧ (post (some y7) w)))) ∧ (¬ a1 < 4 → (post none w))))) := h
  refine lv_iload_n hx hb dXW_replicaAt_0 rfl (lv_at hl 1 rfl) ?_
  refine lv_if_lt (tgt := 9) hx hb dXW_replicaAt_1 (by decide) (fun c1 => ?_) (fun c1 => ?_)
  · replace h := h.1 c1
    refine lv_null hx hb dXW_replicaAt_9 ?_
    refine lv_goto (tgt := 19) hx hb dXW_replicaAt_10 (by decide) ?_
    exact W.aret hx hb hr (Or.inl ⟨_, rfl⟩) (Or.inl rfl) (fun t ht hW => ⟨⟨none, _, rfl, h, by rw [fxC, ht]; exact hP⟩, hS.F ht⟩) hS.2.2 dXW_replicaAt_19 hlocks
  · replace h := h.2 c1
    refine lv_iload_n hx hb dXW_replicaAt_4 rfl (lv_at hl 1 rfl) ?_
    refine lv_iconst (v := 4) hx hb dXW_replicaAt_5 (by decide) ?_
    refine lv_icmp_lt (tgt := 13) hx hb dXW_replicaAt_6 (by decide) (fun c2 => ?_) (fun c2 => ?_)
    · replace h := h.1 c2
      refine lv_aload_n hx hb dXW_replicaAt_13 rfl (lv_at hl 0 rfl) ?_
      obtain ⟨x3, g4, h⟩ := h
      refine kg_XW_18 hx hb hown hts hN hK hP g4 dXW_replicaAt_14 ?_
      refine lv_iload_n hx hb dXW_replicaAt_17 rfl (lv_at hl 1 rfl) ?_
      obtain ⟨n5, f6, y7, g8, g9, g10, h⟩ := h
      refine kaa 1 rfl rfl hx hb hK hP g8 g9 g10 dXW_replicaAt_18 ?_
      exact W.aret hx hb hr (Or.inl ⟨_, rfl⟩) (Or.inr ⟨_, rfl⟩) (fun t ht hW => ⟨⟨(some y7), _, rfl, h, by rw [fxC, ht]; exact hP⟩, hS.F ht⟩) hS.2.2 dXW_replicaAt_19 hlocks
    · replace h := h.2 c2
      refine lv_null hx hb dXW_replicaAt_9 ?_
      refine lv_goto (tgt := 19) hx hb dXW_replicaAt_10 (by decide) ?_
      exact W.aret hx hb hr (Or.inl ⟨_, rfl⟩) (Or.inl rfl) (fun t ht hW => ⟨⟨none, _, rfl, h, by rw [fxC, ht]; exact hP⟩, hS.F ht⟩) hS.2.2 dXW_replicaAt_19 hlocks
set_option maxRecDepth 100000 in
set_option maxHeartbeats 4000000 in
theorem cKXW_replicaAt {l : Launch} {D : va_G} {ca : Nat → Nat} {A : Nat → Prop} {post : Option Nat → fh_T → Prop} {w : fh_T} {a0 : Nat} {a1 : Int32} (h : wKXW_replicaAt post w a0 a1) : Met l yXW_replicaAt (.code yXW_replicaAt cXW_replicaAt 2 (some (.object "HashLinkedWeb$Replica")) :: lg_tbl) ({ frames := 0, cells := 0, slots := 0, locals := 0 } : Room) (va_Pc [.ref a0, .int a1] (kB D ca A w)) (va_Qe (fun x => x) post (fxC (fh_ok D ca A)) A) 0 0 A := by
  refine fx_start (by decide +kernel) (Nat.le_of_ble_eq_true rfl) ?_
  intro p e s m below meth c ls hx hb hr hml hown hts hlocks hnm hB hl
  exact sKXW_replicaAt_in ⟨hx, hb, hr, hml, hown, hts, hlocks, hB.2.2.1, hB.2.2.2.1, hB.2.2.2.2, hB.2.1, hnm⟩ w a0 a1 h _ _ ls hB.1 va_S.rf hl
def wKXDr_begin (post : fh_T → Prop) (w : fh_T) (a0 : Nat) (a1 : Int32) (a2 : Int32) (a3 : Int32) (a4 : Int32) : Prop := (∃ fs1, w a0 = some (.inr (6, fs1)) ∧ 0 < fs1.length ∧ ∀ w2, w2 = fh_up w a0 (.inr (6, fs1.set 0 (.int a1))) → (∃ fs5, w2 a0 = some (.inr (6, fs5)) ∧ 1 < fs5.length ∧ ∀ w6, w6 = fh_up w2 a0 (.inr (6, fs5.set 1 (.int a2))) → (∃ fs9, w6 a0 = some (.inr (6, fs9)) ∧ 2 < fs9.length ∧ ∀ w10, w10 = fh_up w6 a0 (.inr (6, fs9.set 2 (.int a3))) → (∃ fs13, w10 a0 = some (.inr (6, fs13)) ∧ 3 < fs13.length ∧ ∀ w14, w14 = fh_up w10 a0 (.inr (6, fs13.set 3 (.int a4))) → (∃ fs17, w14 a0 = some (.inr (6, fs17)) ∧ 4 < fs17.length ∧ ∀ w18, w18 = fh_up w14 a0 (.inr (6, fs17.set 4 (.int 0))) → (post w18))))))
set_option maxRecDepth 100000 in
set_option maxHeartbeats 4000000 in
theorem sKXDr_begin_in {p : Program} {l : Launch} {e : Env} {s : State} {m : MethodId} {args : Array Value} {below : List Frame} {meth : Method} {c : Code} {D : va_G} {ca : Nat → Nat} {A : Nat → Prop} {post : fh_T → Prop} (C0 : kCx p s m args meth c D ca A RXDr cXDr_begin 5 none "begin") : ∀ (w : fh_T) (a0 : Nat) (a1 : Int32) (a2 : Int32) (a3 : Int32) (a4 : Int32), wKXDr_begin post w a0 a1 a2 a3 a4 → ∀ (H : Heap) (locs : List Loc) (ls : Array Slot), fh_ok D ca A w H → va_S A s.heap H locs → lv_has ls 5 [(0, .ref a0), (1, .int a1), (2, .int a2), (3, .int a3), (4, .int a4)] → W p l e ({ frames := 0, cells := 0, slots := 0, locals := 0 } : Room) s m args below meth c H locs 0 0 (MQ below (va_Qv post (fxC (fh_ok D ca A)) A) args s 0 0 A) (F0 m 0 ls []) := by
  obtain ⟨hx, hb, hr, hml, hown, hts, hlocks, hK, hN, hE, hA, hin⟩ := id C0
  intro w a0 a1 a2 a3 a4 h H locs ls hP hS hl
  replace h : (∃ fs1, w a0 = some (.inr (6, fs1)) ∧ 0 < fs1.length ∧ ∀ w2, w2 = fh_up w a0 (.inr (6, fs1.set 0 (.int a1))) → (∃ fs5, w2 a0 = some (.inr (6, fs5)) ∧ 1 < fs5.length ∧ ∀ w6, w6 = fh_up w2 a0 (.inr (6, fs5.set 1 (.int a2))) → (∃ fs9, w6 a0 = some (.inr (6, fs9)) ∧ 2 < fs9.length ∧ ∀ w10, w10 = fh_up w6 a0 (.inr (6, fs9.set 2 (.int a3))) → (∃ fs13, w10 a0 = some (.inr (6, fs13)) ∧ 3 < fs13.length ∧ ∀ w14, w14 = fh_up w10 a0 (.inr (6, fs13.set 3 (.int a4))) → (∃ fs17, w14 a0 = some (.inr (6, fs17)) ∧ 4 < fs17.length ∧ ∀ w18, w18 = fh_up w14 a0 (.inr (6, fs17.set 4 (.int 0))) → (post w18)))))) := h
  refine lv_aload_n hx hb dXDr_begin_0 rfl (lv_at hl 0 rfl) ?_
  refine lv_iload_n hx hb dXDr_begin_1 rfl (lv_at hl 1 rfl) ?_
  obtain ⟨fs1, g3, g4, h⟩ := h
  obtain ⟨w2, ew2⟩ : ∃ y, y = fh_up w a0 (.inr (6, fs1.set 0 (.int a1))) := ⟨_, rfl⟩
  replace h := h w2 ew2
  refine kp_XDr_15 hx hb hown hts hN hK hP hS g3 g4 dXDr_begin_2 (fun H locs hP hS => ?_)
  rw [← ew2] at hP
  refine lv_aload_n hx hb dXDr_begin_5 rfl (lv_at hl 0 rfl) ?_
  refine lv_iload_n hx hb dXDr_begin_6 rfl (lv_at hl 2 rfl) ?_
  obtain ⟨fs5, g7, g8, h⟩ := h
  obtain ⟨w6, ew6⟩ : ∃ y, y = fh_up w2 a0 (.inr (6, fs5.set 1 (.int a2))) := ⟨_, rfl⟩
  replace h := h w6 ew6
  refine kp_XDr_19 hx hb hown hts hN hK hP hS g7 g8 dXDr_begin_7 (fun H locs hP hS => ?_)
  rw [← ew6] at hP
  refine lv_aload_n hx hb dXDr_begin_10 rfl (lv_at hl 0 rfl) ?_
  refine lv_iload_n hx hb dXDr_begin_11 rfl (lv_at hl 3 rfl) ?_
  obtain ⟨fs9, g11, g12, h⟩ := h
  obtain ⟨w10, ew10⟩ : ∃ y, y = fh_up w6 a0 (.inr (6, fs9.set 2 (.int a3))) := ⟨_, rfl⟩
  replace h := h w10 ew10
  refine kp_XDr_22 hx hb hown hts hN hK hP hS g11 g12 dXDr_begin_12 (fun H locs hP hS => ?_)
  rw [← ew10] at hP
  refine lv_aload_n hx hb dXDr_begin_15 rfl (lv_at hl 0 rfl) ?_
  refine lv_iload hx hb dXDr_begin_16 (lv_at hl 4 rfl) ?_
  obtain ⟨fs13, g15, g16, h⟩ := h
  obtain ⟨w14, ew14⟩ : ∃ y, y = fh_up w10 a0 (.inr (6, fs13.set 3 (.int a4))) := ⟨_, rfl⟩
  replace h := h w14 ew14
  refine kp_XDr_25 hx hb hown hts hN hK hP hS g15 g16 dXDr_begin_18 (fun H locs hP hS => ?_)
  rw [← ew14] at hP
  refine lv_aload_n hx hb dXDr_begin_21 rfl (lv_at hl 0 rfl) ?_
  refine lv_iconst (v := 0) hx hb dXDr_begin_22 (by decide) ?_
  obtain ⟨fs17, g19, g20, h⟩ := h
  obtain ⟨w18, ew18⟩ : ∃ y, y = fh_up w14 a0 (.inr (6, fs17.set 4 (.int 0))) := ⟨_, rfl⟩
  replace h := h w18 ew18
  refine kp_XDr_28 hx hb hown hts hN hK hP hS g19 g20 dXDr_begin_23 (fun H locs hP hS => ?_)
  rw [← ew18] at hP
  exact W.vret hx hb hr (fun t ht hW => ⟨⟨_, rfl, h, by rw [fxC, ht]; exact hP⟩, hS.F ht⟩) hS.2.2 dXDr_begin_26 hlocks
set_option maxRecDepth 100000 in
set_option maxHeartbeats 4000000 in
theorem cKXDr_begin {l : Launch} {D : va_G} {ca : Nat → Nat} {A : Nat → Prop} {post : fh_T → Prop} {w : fh_T} {a0 : Nat} {a1 : Int32} {a2 : Int32} {a3 : Int32} {a4 : Int32} (h : wKXDr_begin post w a0 a1 a2 a3 a4) : Met l yXDr_begin (.code yXDr_begin cXDr_begin 5 none :: lg_tbl) ({ frames := 0, cells := 0, slots := 0, locals := 0 } : Room) (va_Pc [.ref a0, .int a1, .int a2, .int a3, .int a4] (kB D ca A w)) (va_Qv post (fxC (fh_ok D ca A)) A) 0 0 A := by
  refine fx_start (by decide +kernel) (Nat.le_of_ble_eq_true rfl) ?_
  intro p e s m below meth c ls hx hb hr hml hown hts hlocks hnm hB hl
  exact sKXDr_begin_in ⟨hx, hb, hr, hml, hown, hts, hlocks, hB.2.2.1, hB.2.2.2.1, hB.2.2.2.2, hB.2.1, hnm⟩ w a0 a1 a2 a3 a4 h _ _ ls hB.1 va_S.rf hl
def wKXRo_at (post : Option Nat → fh_T → Prop) (w : fh_T) (a0 : Nat) (a1 : Int32) : Prop := ((a1 < 0 → (post none w)) ∧ (¬ a1 < 0 → (∃ x2, fh_g w a0 3 1 (.int x2) ∧ ((a1 < x2 → (∃ x5, fh_g w a0 3 0 (.ref x5) ∧ (∃ n7 f8 y9, w x5 = some (.inl (0, n7, .inr (.inr (.inr (.inr f8))))) ∧ vp_in a1 n7 ∧ f8 (Int32.toNatClampNeg a1) = some y9 ∧ (post (some y9) w)))) ∧ (¬ a1 < x2 → (post none w))))))
set_option maxRecDepth 100000 in
set_option maxHeartbeats 4000000 in
theorem sKXRo_at_in {p : Program} {l : Launch} {e : Env} {s : State} {m : MethodId} {args : Array Value} {below : List Frame} {meth : Method} {c : Code} {D : va_G} {ca : Nat → Nat} {A : Nat → Prop} {post : Option Nat → fh_T → Prop} (C0 : kCx p s m args meth c D ca A RXRo cXRo_at 2 (some (.object "HashLinkedWeb$Member")) "at") : ∀ (w : fh_T) (a0 : Nat) (a1 : Int32), wKXRo_at post w a0 a1 → ∀ (H : Heap) (locs : List Loc) (ls : Array Slot), fh_ok D ca A w H → va_S A s.heap H locs → lv_has ls 2 [(0, .ref a0), (1, .int a1)] → W p l e ({ frames := 0, cells := 0, slots := 0, locals := 0 } : Room) s m args below meth c H locs 0 0 (MQ below (va_Qe (fun x => x) post (fxC (fh_ok D ca A)) A) args s 0 0 A) (F0 m 0 ls []) := by
  obtain ⟨hx, hb, hr, hml, hown, hts, hlocks, hK, hN, hE, hA, hin⟩ := id C0
  intro w a0 a1 h H locs ls hP hS hl
  replace h : ((a1 < 0 → (post none w)) ∧ (¬ a1 < 0 → (∃ x2, fh_g w a0 3 1 (.int x2) ∧ ((a1 < x2 → (∃ x5, fh_g w a0 3 0 (.ref x5) ∧ (∃ n7 f8 y9, w x5 = some (.inl (0, n7, .inr (.inr (.inr (.inr f8))))) ∧ vp_in a1 n7 ∧ f8 (Int32.toNatClampNeg a1) = some y9 ∧ (post (some y9) w)))) ∧ (¬ a1 < x2 → (post none w)))))) := h
  refine lv_iload_n hx hb dXRo_at_0 rfl (lv_at hl 1 rfl) ?_
  refine lv_if_lt (tgt := 12) hx hb dXRo_at_1 (by decide) (fun c1 => ?_) (fun c1 => ?_)
  · replace h := h.1 c1
    refine lv_null hx hb dXRo_at_12 ?_
    refine lv_goto (tgt := 22) hx hb dXRo_at_13 (by decide) ?_
    exact W.aret hx hb hr (Or.inl ⟨_, rfl⟩) (Or.inl rfl) (fun t ht hW => ⟨⟨none, _, rfl, h, by rw [fxC, ht]; exact hP⟩, hS.F ht⟩) hS.2.2 dXRo_at_22 hlocks
  · replace h := h.2 c1
    refine lv_iload_n hx hb dXRo_at_4 rfl (lv_at hl 1 rfl) ?_
    refine lv_aload_n hx hb dXRo_at_5 rfl (lv_at hl 0 rfl) ?_
    obtain ⟨x2, g3, h⟩ := h
    refine kg_XRo_17 hx hb hown hts hN hK hP g3 dXRo_at_6 ?_
    refine lv_icmp_lt (tgt := 16) hx hb dXRo_at_9 (by decide) (fun c4 => ?_) (fun c4 => ?_)
    · replace h := h.1 c4
      refine lv_aload_n hx hb dXRo_at_16 rfl (lv_at hl 0 rfl) ?_
      obtain ⟨x5, g6, h⟩ := h
      refine kg_XRo_11 hx hb hown hts hN hK hP g6 dXRo_at_17 ?_
      refine lv_iload_n hx hb dXRo_at_20 rfl (lv_at hl 1 rfl) ?_
      obtain ⟨n7, f8, y9, g10, g11, g12, h⟩ := h
      refine kaa 0 rfl rfl hx hb hK hP g10 g11 g12 dXRo_at_21 ?_
      exact W.aret hx hb hr (Or.inl ⟨_, rfl⟩) (Or.inr ⟨_, rfl⟩) (fun t ht hW => ⟨⟨(some y9), _, rfl, h, by rw [fxC, ht]; exact hP⟩, hS.F ht⟩) hS.2.2 dXRo_at_22 hlocks
    · replace h := h.2 c4
      refine lv_null hx hb dXRo_at_12 ?_
      refine lv_goto (tgt := 22) hx hb dXRo_at_13 (by decide) ?_
      exact W.aret hx hb hr (Or.inl ⟨_, rfl⟩) (Or.inl rfl) (fun t ht hW => ⟨⟨none, _, rfl, h, by rw [fxC, ht]; exact hP⟩, hS.F ht⟩) hS.2.2 dXRo_at_22 hlocks
set_option maxRecDepth 100000 in
set_option maxHeartbeats 4000000 in
theorem cKXRo_at {l : Launch} {D : va_G} {ca : Nat → Nat} {A : Nat → Prop} {post : Option Nat → fh_T → Prop} {w : fh_T} {a0 : Nat} {a1 : Int32} (h : wKXRo_at post w a0 a1) : Met l yXRo_at (.code yXRo_at cXRo_at 2 (some (.object "HashLinkedWeb$Member")) :: lg_tbl) ({ frames := 0, cells := 0, slots := 0, locals := 0 } : Room) (va_Pc [.ref a0, .int a1] (kB D ca A w)) (va_Qe (fun x => x) post (fxC (fh_ok D ca A)) A) 0 0 A := by
  refine fx_start (by decide +kernel) (Nat.le_of_ble_eq_true rfl) ?_
  intro p e s m below meth c ls hx hb hr hml hown hts hlocks hnm hB hl
  exact sKXRo_at_in ⟨hx, hb, hr, hml, hown, hts, hlocks, hB.2.2.1, hB.2.2.2.1, hB.2.2.2.2, hB.2.1, hnm⟩ w a0 a1 h _ _ ls hB.1 va_S.rf hl
def wKXW_headHash (post : Int64 → fh_T → Prop) (w : fh_T) (a1 : Nat) (a2 : Int32) : Prop := (∃ x1, fh_g w a1 4 2 (.ref x1) ∧ (∃ fs4, w x1 = some (.inr (3, fs4)) ∧ (wKXRo_at (fun r3 w_3 => ((r3 = none → (post 0 w_3)) ∧ (∀ y6, r3 = some y6 → (∃ x7, fh_g w_3 y6 7 0 (.ref x7) ∧ (∃ x9, fh_g w_3 x7 5 5 (.long x9) ∧ (post x9 w_3)))))) w x1 a2)))
set_option maxRecDepth 100000 in
set_option maxHeartbeats 4000000 in
theorem sKXW_headHash_in {p : Program} {l : Launch} {e : Env} {s : State} {m : MethodId} {args : Array Value} {below : List Frame} {meth : Method} {c : Code} {D : va_G} {ca : Nat → Nat} {A : Nat → Prop} {post : Int64 → fh_T → Prop} (C0 : kCx p s m args meth c D ca A RXW cXW_headHash 3 (some .long) "headHash") : ∀ (w : fh_T) (a1 : Nat) (a2 : Int32), wKXW_headHash post w a1 a2 → ∀ (H : Heap) (locs : List Loc) (ls : Array Slot), fh_ok D ca A w H → va_S A s.heap H locs → lv_has ls 3 [(0, .ref a1), (1, .int a2)] → W p l e ({ frames := 1, cells := 0, slots := 0, locals := 21 } : Room) s m args below meth c H locs 0 0 (MQ below (va_Ql post (fxC (fh_ok D ca A)) A) args s 0 0 A) (F0 m 0 ls []) := by
  obtain ⟨hx, hb, hr, hml, hown, hts, hlocks, hK, hN, hE, hA, hin⟩ := id C0
  intro w a1 a2 h H locs ls hP hS hl
  replace h : (∃ x1, fh_g w a1 4 2 (.ref x1) ∧ (∃ fs4, w x1 = some (.inr (3, fs4)) ∧ (wKXRo_at (fun r3 w_3 => ((r3 = none → (post 0 w_3)) ∧ (∀ y6, r3 = some y6 → (∃ x7, fh_g w_3 y6 7 0 (.ref x7) ∧ (∃ x9, fh_g w_3 x7 5 5 (.long x9) ∧ (post x9 w_3)))))) w x1 a2))) := h
  refine lv_aload_n hx hb dXW_headHash_0 rfl (lv_at hl 0 rfl) ?_
  obtain ⟨x1, g2, h⟩ := h
  refine kg_XW_43 hx hb hown hts hN hK hP g2 dXW_headHash_1 ?_
  refine lv_iload_n hx hb dXW_headHash_4 rfl (lv_at hl 1 rfl) ?_
  obtain ⟨fs4, g5, h⟩ := h
  refine va_calle (va_runV (As := [.int a2]) (rest := []) ⟨hx, hb, hml, hown, hts⟩ (cKXRo_at h) (gc_XW_155 hts hN ⟨Nat.le_of_ble_eq_true rfl, Nat.le_of_ble_eq_true rfl⟩) (k_preV g5 rfl hP hS hA hK hN hE) rfl rfl hl.1 rfl (lv_room (Nat.le_of_ble_eq_true rfl)) dXW_headHash_5 ⟨Nat.le_of_ble_eq_true rfl, Nat.le_of_ble_eq_true rfl⟩) hS (fun _ _ q => q) (fun _ q => q) (fun r3 w_3 t H locs ht hvm h hP hz hk hS => ?_)
  rw [fxC, ht] at hP
  rcases e11 : r3 with _ | y6
  · replace h := h.1 e11
    subst e11
    refine lv_astore_nN (lv' := [(2, .null), (0, .ref a1), (1, .int a2)]) hx hb dXW_headHash_8 rfl hl (by decide) rfl (fun ls hl => ?_)
    refine lv_aload_nN hx hb dXW_headHash_9 rfl (lv_at hl 0 rfl) ?_
    refine lv_ifnonnullN hx hb dXW_headHash_10 ?_
    refine lv_lconst (v := 0) hx hb dXW_headHash_13 (by decide) ?_
    refine lv_goto (tgt := 24) hx hb dXW_headHash_14 (by decide) ?_
    exact W.lret hx hb hr (fun t ht hW => ⟨⟨_, _, rfl, h, by rw [fxC, ht]; exact hP⟩, hS.F ht⟩) hS.2.2 dXW_headHash_24 hlocks
  · replace h := h.2 y6 e11
    subst e11
    refine lv_astore_n (lv' := [(2, .ref y6), (0, .ref a1), (1, .int a2)]) hx hb dXW_headHash_8 rfl hl (by decide) rfl (fun ls hl => ?_)
    refine lv_aload_n hx hb dXW_headHash_9 rfl (lv_at hl 0 rfl) ?_
    refine lv_ifnonnull (tgt := 17) hx hb dXW_headHash_10 (by decide) ?_
    refine lv_aload_n hx hb dXW_headHash_17 rfl (lv_at hl 0 rfl) ?_
    obtain ⟨x7, g8, h⟩ := h
    refine kg_XW_123 hx hb hown hts hN hK hP g8 dXW_headHash_18 ?_
    obtain ⟨x9, g10, h⟩ := h
    refine kg_XW_75 hx hb hown hts hN hK hP g10 dXW_headHash_21 ?_
    exact W.lret hx hb hr (fun t ht hW => ⟨⟨_, _, rfl, h, by rw [fxC, ht]; exact hP⟩, hS.F ht⟩) hS.2.2 dXW_headHash_24 hlocks
set_option maxRecDepth 100000 in
set_option maxHeartbeats 4000000 in
theorem cKXW_headHash {l : Launch} {D : va_G} {ca : Nat → Nat} {A : Nat → Prop} {post : Int64 → fh_T → Prop} {w : fh_T} {a1 : Nat} {a2 : Int32} (h : wKXW_headHash post w a1 a2) : Met l yXW_headHash (.code yXW_headHash cXW_headHash 3 (some .long) :: lg_tbl) ({ frames := 1, cells := 0, slots := 0, locals := 21 } : Room) (va_Pc [.ref a1, .int a2] (kB D ca A w)) (va_Ql post (fxC (fh_ok D ca A)) A) 0 0 A := by
  refine fx_start (by decide +kernel) (Nat.le_of_ble_eq_true rfl) ?_
  intro p e s m below meth c ls hx hb hr hml hown hts hlocks hnm hB hl
  exact sKXW_headHash_in ⟨hx, hb, hr, hml, hown, hts, hlocks, hB.2.2.1, hB.2.2.2.1, hB.2.2.2.2, hB.2.1, hnm⟩ w a1 a2 h _ _ ls hB.1 va_S.rf hl
def wKXDr_append (post : Int32 → fh_T → Prop) (w : fh_T) (a0 : Nat) (a1 : Int64) : Prop := (∃ x1, fh_g w a0 6 4 (.int x1) ∧ ((x1 < 4 → (∃ x4, fh_g w a0 6 5 (.ref x4) ∧ (∃ x6, fh_g w a0 6 4 (.int x6) ∧ (∃ n8 f9, w x4 = some (.inl (2, n8, .inr (.inl f9))) ∧ vp_in x6 n8 ∧ ∀ w12, w12 = fh_up w x4 (.inl (2, n8, .inr (.inl (vp_updL f9 (Int32.toNatClampNeg x6) a1)))) → (∃ x13, fh_g w12 a0 6 4 (.int x13) ∧ (∃ fs15, w12 a0 = some (.inr (6, fs15)) ∧ 4 < fs15.length ∧ ∀ w16, w16 = fh_up w12 a0 (.inr (6, fs15.set 4 (.int (x13 + 1)))) → (post 1 w16))))))) ∧ (¬ x1 < 4 → (post 0 w))))
set_option maxRecDepth 100000 in
set_option maxHeartbeats 4000000 in
theorem sKXDr_append_in {p : Program} {l : Launch} {e : Env} {s : State} {m : MethodId} {args : Array Value} {below : List Frame} {meth : Method} {c : Code} {D : va_G} {ca : Nat → Nat} {A : Nat → Prop} {post : Int32 → fh_T → Prop} (C0 : kCx p s m args meth c D ca A RXDr cXDr_append 3 (some .boolean) "append") : ∀ (w : fh_T) (a0 : Nat) (a1 : Int64), wKXDr_append post w a0 a1 → ∀ (H : Heap) (locs : List Loc) (ls : Array Slot), fh_ok D ca A w H → va_S A s.heap H locs → lv_has ls 3 [(0, .ref a0), (1, .long a1)] → W p l e ({ frames := 0, cells := 0, slots := 0, locals := 0 } : Room) s m args below meth c H locs 0 0 (MQ below (va_Qi post (fxC (fh_ok D ca A)) A) args s 0 0 A) (F0 m 0 ls []) := by
  obtain ⟨hx, hb, hr, hml, hown, hts, hlocks, hK, hN, hE, hA, hin⟩ := id C0
  intro w a0 a1 h H locs ls hP hS hl
  replace h : (∃ x1, fh_g w a0 6 4 (.int x1) ∧ ((x1 < 4 → (∃ x4, fh_g w a0 6 5 (.ref x4) ∧ (∃ x6, fh_g w a0 6 4 (.int x6) ∧ (∃ n8 f9, w x4 = some (.inl (2, n8, .inr (.inl f9))) ∧ vp_in x6 n8 ∧ ∀ w12, w12 = fh_up w x4 (.inl (2, n8, .inr (.inl (vp_updL f9 (Int32.toNatClampNeg x6) a1)))) → (∃ x13, fh_g w12 a0 6 4 (.int x13) ∧ (∃ fs15, w12 a0 = some (.inr (6, fs15)) ∧ 4 < fs15.length ∧ ∀ w16, w16 = fh_up w12 a0 (.inr (6, fs15.set 4 (.int (x13 + 1)))) → (post 1 w16))))))) ∧ (¬ x1 < 4 → (post 0 w)))) := h
  refine lv_aload_n hx hb dXDr_append_0 rfl (lv_at hl 0 rfl) ?_
  obtain ⟨x1, g2, h⟩ := h
  refine kg_XDr_28 hx hb hown hts hN hK hP g2 dXDr_append_1 ?_
  refine lv_iconst (v := 4) hx hb dXDr_append_4 (by decide) ?_
  refine lv_icmp_lt (tgt := 10) hx hb dXDr_append_5 (by decide) (fun c3 => ?_) (fun c3 => ?_)
  · replace h := h.1 c3
    refine lv_aload_n hx hb dXDr_append_10 rfl (lv_at hl 0 rfl) ?_
    obtain ⟨x4, g5, h⟩ := h
    refine kg_XDr_9 hx hb hown hts hN hK hP g5 dXDr_append_11 ?_
    refine lv_aload_n hx hb dXDr_append_14 rfl (lv_at hl 0 rfl) ?_
    obtain ⟨x6, g7, h⟩ := h
    refine kg_XDr_28 hx hb hown hts hN hK hP g7 dXDr_append_15 ?_
    refine lv_lload_n hx hb dXDr_append_18 rfl (lv_at hl 1 rfl) ?_
    obtain ⟨n8, f9, g10, g11, h⟩ := h
    obtain ⟨w12, ew12⟩ : ∃ y, y = fh_up w x4 (.inl (2, n8, .inr (.inl (vp_updL f9 (Int32.toNatClampNeg x6) a1)))) := ⟨_, rfl⟩
    replace h := h w12 ew12
    refine kls hx hb hK hP hS g10 g11 dXDr_append_19 (fun H locs hP hS => ?_)
    rw [← ew12] at hP
    refine lv_aload_n hx hb dXDr_append_20 rfl (lv_at hl 0 rfl) ?_
    refine lv_dup hx hb dXDr_append_21 rfl ?_
    obtain ⟨x13, g14, h⟩ := h
    refine kg_XDr_28 hx hb hown hts hN hK hP g14 dXDr_append_22 ?_
    refine lv_iconst (v := 1) hx hb dXDr_append_25 (by decide) ?_
    refine lv_iadd hx hb dXDr_append_26 ?_
    obtain ⟨fs15, g17, g18, h⟩ := h
    obtain ⟨w16, ew16⟩ : ∃ y, y = fh_up w12 a0 (.inr (6, fs15.set 4 (.int (x13 + 1)))) := ⟨_, rfl⟩
    replace h := h w16 ew16
    refine kp_XDr_28 hx hb hown hts hN hK hP hS g17 g18 dXDr_append_27 (fun H locs hP hS => ?_)
    rw [← ew16] at hP
    refine lv_iconst (v := 1) hx hb dXDr_append_30 (by decide) ?_
    exact W.zret hx hb hr rfl (fun t ht hW => ⟨⟨_, _, rfl, h, by rw [fxC, ht]; exact hP⟩, hS.F ht⟩) hS.2.2 dXDr_append_31 hlocks
  · replace h := h.2 c3
    refine lv_iconst (v := 0) hx hb dXDr_append_8 (by decide) ?_
    exact W.zret hx hb hr rfl (fun t ht hW => ⟨⟨_, _, rfl, h, by rw [fxC, ht]; exact hP⟩, hS.F ht⟩) hS.2.2 dXDr_append_9 hlocks
set_option maxRecDepth 100000 in
set_option maxHeartbeats 4000000 in
theorem cKXDr_append {l : Launch} {D : va_G} {ca : Nat → Nat} {A : Nat → Prop} {post : Int32 → fh_T → Prop} {w : fh_T} {a0 : Nat} {a1 : Int64} (h : wKXDr_append post w a0 a1) : Met l yXDr_append (.code yXDr_append cXDr_append 3 (some .boolean) :: lg_tbl) ({ frames := 0, cells := 0, slots := 0, locals := 0 } : Room) (va_Pc [.ref a0, .long a1] (kB D ca A w)) (va_Qi post (fxC (fh_ok D ca A)) A) 0 0 A := by
  refine fx_start (by decide +kernel) (Nat.le_of_ble_eq_true rfl) ?_
  intro p e s m below meth c ls hx hb hr hml hown hts hlocks hnm hB hl
  exact sKXDr_append_in ⟨hx, hb, hr, hml, hown, hts, hlocks, hB.2.2.1, hB.2.2.2.1, hB.2.2.2.2, hB.2.1, hnm⟩ w a0 a1 h _ _ ls hB.1 va_S.rf hl
def wKXAr_copyOf (post : Option Nat → fh_T → Prop) (w : fh_T) (mc : Nat) (ms : Nat) (a1 : Nat) (a2 : Int32) : Prop := (∃ n1 z2, w a1 = some (.inl (2, n1, z2)) ∧ ((¬ a2 = (nI n1) → (∃ n7 mc8 ms9, ¬ (a2 : Int32) < 0 ∧ Int32.toNatClampNeg a2 = n7 ∧ n7 * componentBytes .long ≤ 536870912 ∧ mc = mc8 + 1 ∧ ms = ms9 + n7 ∧ ∀ q5, w q5 = none → ∀ w6, w6 = fh_up w q5 (.inl (2, n7, .inr (.inl (fun _ => 0)))) → (∃ n10 z11, w6 a1 = some (.inl (2, n10, z11)) ∧ (∃ n14 f16 n15 f17, w6 a1 = some (.inl (2, n14, .inr (.inl f16))) ∧ w6 q5 = some (.inl (2, n15, .inr (.inl f17))) ∧ ¬ (0 : Int32) < 0 ∧ ¬ (0 : Int32) < 0 ∧ ¬ (if a2 < (nI n10) then a2 else (nI n10) : Int32) < 0 ∧ (Int32.toNatClampNeg 0) + (Int32.toNatClampNeg (if a2 < (nI n10) then a2 else (nI n10))) ≤ n14 ∧ (Int32.toNatClampNeg 0) + (Int32.toNatClampNeg (if a2 < (nI n10) then a2 else (nI n10))) ≤ n15 ∧ ∀ w13, w13 = fh_up w6 q5 (.inl (2, n15, .inr (.inl (va_cpy f16 f17 (Int32.toNatClampNeg 0) (Int32.toNatClampNeg 0) (Int32.toNatClampNeg (if a2 < (nI n10) then a2 else (nI n10))))))) → (post (some q5) w13))))) ∧ (a2 = (nI n1) → (∃ n20 f21 mc25 ms26, w a1 = some (.inl (2, n20, .inr (.inl f21))) ∧ mc = mc25 + 1 ∧ ms = ms26 + n20 ∧ ∀ q23, w q23 = none → ∀ w24, w24 = fh_up w q23 (.inl (2, n20, .inr (.inl f21))) → (∃ n27 z28, w24 q23 = some (.inl (2, n27, z28)) ∧ (post (some q23) w24))))))
set_option maxRecDepth 100000 in
set_option maxHeartbeats 4000000 in
theorem sKXAr_copyOf_in {p : Program} {l : Launch} {e : Env} {s : State} {m : MethodId} {args : Array Value} {below : List Frame} {meth : Method} {c : Code} {D : va_G} {ca : Nat → Nat} {A : Nat → Prop} {MC MS : Nat} {post : Option Nat → fh_T → Prop} (C0 : kCx p s m args meth c D ca A RXAr cXAr_copyOf 3 (some (.array .long)) "copyOf") : ∀ (w : fh_T) (mc : Nat) (ms : Nat) (a1 : Nat) (a2 : Int32), wKXAr_copyOf post w mc ms a1 a2 → ∀ (H : Heap) (locs : List Loc) (ls : Array Slot), fh_ok D ca A w H → va_S A s.heap H locs → lv_has ls 3 [(0, .ref a1), (1, .int a2)] → ∀ cells slots : Nat, cells + mc = MC → slots + ms = MS → W p l e ({ frames := 1, cells := MC, slots := MS, locals := 40 } : Room) s m args below meth c H locs cells slots (MQ below (va_Qe (fun x => x) post (fxC (fh_ok D ca A)) A) args s MC MS A) (F0 m 0 ls []) := by
  obtain ⟨hx, hb, hr, hml, hown, hts, hlocks, hK, hN, hE, hA, hin⟩ := id C0
  intro w mc ms a1 a2 h H locs ls hP hS hl cells slots hbc hbs
  replace h : (∃ n1 z2, w a1 = some (.inl (2, n1, z2)) ∧ ((¬ a2 = (nI n1) → (∃ n7 mc8 ms9, ¬ (a2 : Int32) < 0 ∧ Int32.toNatClampNeg a2 = n7 ∧ n7 * componentBytes .long ≤ 536870912 ∧ mc = mc8 + 1 ∧ ms = ms9 + n7 ∧ ∀ q5, w q5 = none → ∀ w6, w6 = fh_up w q5 (.inl (2, n7, .inr (.inl (fun _ => 0)))) → (∃ n10 z11, w6 a1 = some (.inl (2, n10, z11)) ∧ (∃ n14 f16 n15 f17, w6 a1 = some (.inl (2, n14, .inr (.inl f16))) ∧ w6 q5 = some (.inl (2, n15, .inr (.inl f17))) ∧ ¬ (0 : Int32) < 0 ∧ ¬ (0 : Int32) < 0 ∧ ¬ (if a2 < (nI n10) then a2 else (nI n10) : Int32) < 0 ∧ (Int32.toNatClampNeg 0) + (Int32.toNatClampNeg (if a2 < (nI n10) then a2 else (nI n10))) ≤ n14 ∧ (Int32.toNatClampNeg 0) + (Int32.toNatClampNeg (if a2 < (nI n10) then a2 else (nI n10))) ≤ n15 ∧ ∀ w13, w13 = fh_up w6 q5 (.inl (2, n15, .inr (.inl (va_cpy f16 f17 (Int32.toNatClampNeg 0) (Int32.toNatClampNeg 0) (Int32.toNatClampNeg (if a2 < (nI n10) then a2 else (nI n10))))))) → (post (some q5) w13))))) ∧ (a2 = (nI n1) → (∃ n20 f21 mc25 ms26, w a1 = some (.inl (2, n20, .inr (.inl f21))) ∧ mc = mc25 + 1 ∧ ms = ms26 + n20 ∧ ∀ q23, w q23 = none → ∀ w24, w24 = fh_up w q23 (.inl (2, n20, .inr (.inl f21))) → (∃ n27 z28, w24 q23 = some (.inl (2, n27, z28)) ∧ (post (some q23) w24)))))) := h
  refine lv_iload_n hx hb dXAr_copyOf_0 rfl (lv_at hl 1 rfl) ?_
  refine lv_aload_n hx hb dXAr_copyOf_1 rfl (lv_at hl 0 rfl) ?_
  obtain ⟨n1, z2, g3, h⟩ := h
  refine kal 2 rfl rfl hx hb hK hP g3 dXAr_copyOf_2 ?_
  refine lv_icmp_ne (tgt := 14) hx hb dXAr_copyOf_3 (by decide) (fun c4 => ?_) (fun c4 => ?_)
  · replace h := h.1 c4
    refine lv_iload_n hx hb dXAr_copyOf_14 rfl (lv_at hl 1 rfl) ?_
    obtain ⟨n7, mc8, ms9, hn1, hn2, hn3, hm1, hm2, h⟩ := h
    refine klnew hx hb hts hK hE hP hS hA hn1 hn2 hn3 (show cells + 1 ≤ MC by omega) (show slots + n7 ≤ MS by omega) dXAr_copyOf_15 (fun q5 H hq hP hS => ?_)
    obtain ⟨w6, ew6⟩ : ∃ y, y = fh_up w q5 (.inl (2, n7, .inr (.inl (fun _ => 0)))) := ⟨_, rfl⟩
    replace h := h q5 hq w6 ew6
    rw [← ew6] at hP
    replace hbc : cells + 1 + mc8 = MC := by omega
    replace hbs : slots + n7 + ms9 = MS := by omega
    refine lv_astore_n (lv' := [(2, .ref q5), (0, .ref a1), (1, .int a2)]) hx hb dXAr_copyOf_17 rfl hl (by decide) rfl (fun ls hl => ?_)
    refine lv_aload_n hx hb dXAr_copyOf_18 rfl (lv_at hl 1 rfl) ?_
    refine lv_iconst (v := 0) hx hb dXAr_copyOf_19 (by decide) ?_
    refine lv_aload_n hx hb dXAr_copyOf_20 rfl (lv_at hl 0 rfl) ?_
    refine lv_iconst (v := 0) hx hb dXAr_copyOf_21 (by decide) ?_
    refine lv_aload_n hx hb dXAr_copyOf_22 rfl (lv_at hl 1 rfl) ?_
    obtain ⟨n10, z11, g12, h⟩ := h
    refine kal 2 rfl rfl hx hb hK hP g12 dXAr_copyOf_23 ?_
    refine lv_iload_n hx hb dXAr_copyOf_24 rfl (lv_at hl 2 rfl) ?_
    refine kmin_XAr_304 hx hb (by rw [hml]; exact hl.1.symm) hown hts (Nat.le_of_ble_eq_true rfl) (Nat.le_of_ble_eq_true rfl) (show cells + 1 ≤ MC by omega) (show slots + n7 ≤ MS by omega) dXAr_copyOf_25 ?_
    obtain ⟨n14, f16, n15, f17, g18, g19, hc1, hc2, hc3, hc4, hc5, h⟩ := h
    obtain ⟨w13, ew13⟩ : ∃ y, y = fh_up w6 q5 (.inl (2, n15, .inr (.inl (va_cpy f16 f17 (Int32.toNatClampNeg 0) (Int32.toNatClampNeg 0) (Int32.toNatClampNeg (if a2 < (nI n10) then a2 else (nI n10))))))) := ⟨_, rfl⟩
    replace h := h w13 ew13
    refine kcpL hx hb (by rw [hml]; exact hl.1.symm) hown hts (hts (.methodLink RXAr 150 arraycopyName) (fx_m (by decide +kernel))) hK hP hS g18 g19 hc1 hc2 hc3 hc4 hc5 (Nat.le_of_ble_eq_true rfl) (Nat.le_of_ble_eq_true rfl) dXAr_copyOf_28 (fun H locs hP hS => ?_)
    rw [← ew13] at hP
    refine lv_aload_n hx hb dXAr_copyOf_31 rfl (lv_at hl 0 rfl) ?_
    refine W.widen (k := MC) (n := MS) (by omega) (by omega) ?_
    exact W.aret hx hb hr (Or.inr ⟨_, rfl⟩) (Or.inr ⟨_, rfl⟩) (fun t ht hW => ⟨⟨(some q5), _, rfl, h, by rw [fxC, ht]; exact hP⟩, hS.F ht⟩) hS.2.2 dXAr_copyOf_32 hlocks
  · replace h := h.2 c4
    refine lv_aload_n hx hb dXAr_copyOf_6 rfl (lv_at hl 0 rfl) ?_
    obtain ⟨n20, f21, mc25, ms26, g22, hm1, hm2, h⟩ := h
    refine kclone hx hb (by rw [hml]; exact hl.1.symm) hown hts (hts (.methodLink RXAr 319 ⟨"[J", "clone", "()Ljava/lang/Object;"⟩) (fx_m (by decide +kernel))) hN hK hE hP hS hA g22 (Nat.le_of_ble_eq_true rfl) (Nat.le_of_ble_eq_true rfl) (show cells + 1 ≤ MC by omega) (show slots + n20 ≤ MS by omega) dXAr_copyOf_7 (fun q23 H hq hP hS => ?_)
    obtain ⟨w24, ew24⟩ : ∃ y, y = fh_up w q23 (.inl (2, n20, .inr (.inl f21))) := ⟨_, rfl⟩
    replace h := h q23 hq w24 ew24
    rw [← ew24] at hP
    replace hbc : cells + 1 + mc25 = MC := by omega
    replace hbs : slots + n20 + ms26 = MS := by omega
    obtain ⟨n27, z28, g29, h⟩ := h
    refine kcastL hx hb hown (hts (.classLink RXAr 320 "[J") (fx_m (by decide +kernel))) hK hP g29 dXAr_copyOf_10 ?_
    refine W.widen (k := MC) (n := MS) (by omega) (by omega) ?_
    exact W.aret hx hb hr (Or.inr ⟨_, rfl⟩) (Or.inr ⟨_, rfl⟩) (fun t ht hW => ⟨⟨(some q23), _, rfl, h, by rw [fxC, ht]; exact hP⟩, hS.F ht⟩) hS.2.2 dXAr_copyOf_13 hlocks
set_option maxRecDepth 100000 in
set_option maxHeartbeats 4000000 in
theorem cKXAr_copyOf {l : Launch} {D : va_G} {ca : Nat → Nat} {A : Nat → Prop} {post : Option Nat → fh_T → Prop} {w : fh_T} {mc : Nat} {ms : Nat} {a1 : Nat} {a2 : Int32} (h : wKXAr_copyOf post w mc ms a1 a2) : Met l yXAr_copyOf (.code yXAr_copyOf cXAr_copyOf 3 (some (.array .long)) :: lg_tbl) ({ frames := 1, cells := mc, slots := ms, locals := 40 } : Room) (va_Pc [.ref a1, .int a2] (kB D ca A w)) (va_Qe (fun x => x) post (fxC (fh_ok D ca A)) A) mc ms A := by
  refine fx_start (by decide +kernel) (Nat.le_of_ble_eq_true rfl) ?_
  intro p e s m below meth c ls hx hb hr hml hown hts hlocks hnm hB hl
  exact sKXAr_copyOf_in ⟨hx, hb, hr, hml, hown, hts, hlocks, hB.2.2.1, hB.2.2.2.1, hB.2.2.2.2, hB.2.1, hnm⟩ w mc ms a1 a2 h _ _ ls hB.1 va_S.rf hl 0 0 (Nat.zero_add _) (Nat.zero_add _)
def wKXOp_takeIn (post : Int64 → fh_T → Prop) (w : fh_T) (a1 : Int64) (a2 : Int64) : Prop := (post (((a1 ^^^ a2) * 1099511628211) ^^^ (hj_ushr ((a1 ^^^ a2) * 1099511628211) 29)) w)
set_option maxRecDepth 100000 in
set_option maxHeartbeats 4000000 in
theorem sKXOp_takeIn_in {p : Program} {l : Launch} {e : Env} {s : State} {m : MethodId} {args : Array Value} {below : List Frame} {meth : Method} {c : Code} {D : va_G} {ca : Nat → Nat} {A : Nat → Prop} {post : Int64 → fh_T → Prop} (C0 : kCx p s m args meth c D ca A RXOp cXOp_takeIn 6 (some .long) "takeIn") : ∀ (w : fh_T) (a1 : Int64) (a2 : Int64), wKXOp_takeIn post w a1 a2 → ∀ (H : Heap) (locs : List Loc) (ls : Array Slot), fh_ok D ca A w H → va_S A s.heap H locs → lv_has ls 6 [(0, .long a1), (2, .long a2)] → W p l e ({ frames := 0, cells := 0, slots := 0, locals := 0 } : Room) s m args below meth c H locs 0 0 (MQ below (va_Ql post (fxC (fh_ok D ca A)) A) args s 0 0 A) (F0 m 0 ls []) := by
  obtain ⟨hx, hb, hr, hml, hown, hts, hlocks, hK, hN, hE, hA, hin⟩ := id C0
  intro w a1 a2 h H locs ls hP hS hl
  replace h : (post (((a1 ^^^ a2) * 1099511628211) ^^^ (hj_ushr ((a1 ^^^ a2) * 1099511628211) 29)) w) := h
  refine lv_lload_n hx hb dXOp_takeIn_0 rfl (lv_at hl 0 rfl) ?_
  refine lv_lload_n hx hb dXOp_takeIn_1 rfl (lv_at hl 1 rfl) ?_
  refine lv_lxor hx hb dXOp_takeIn_2 ?_
  refine lv_ldc2 (v := 1099511628211) hx hb hown (hts (.constantLong RXOp 38 1099511628211) (fx_m (by decide +kernel))) dXOp_takeIn_3 ?_
  refine lv_lmul hx hb dXOp_takeIn_6 ?_
  refine lv_lstore (lv' := [(4, .long ((a1 ^^^ a2) * 1099511628211)), (0, .long a1), (2, .long a2)]) hx hb dXOp_takeIn_7 hl (by decide) rfl (fun ls hl => ?_)
  refine lv_lload hx hb dXOp_takeIn_9 (lv_at hl 0 rfl) ?_
  refine lv_lload hx hb dXOp_takeIn_11 (lv_at hl 0 rfl) ?_
  refine lv_bipush (v := 29) hx hb dXOp_takeIn_13 (by decide) ?_
  refine lv_lushr (v := hj_ushr ((a1 ^^^ a2) * 1099511628211) 29) hx hb dXOp_takeIn_15 rfl ?_
  refine lv_lxor hx hb dXOp_takeIn_16 ?_
  exact W.lret hx hb hr (fun t ht hW => ⟨⟨_, _, rfl, h, by rw [fxC, ht]; exact hP⟩, hS.F ht⟩) hS.2.2 dXOp_takeIn_17 hlocks
set_option maxRecDepth 100000 in
set_option maxHeartbeats 4000000 in
theorem cKXOp_takeIn {l : Launch} {D : va_G} {ca : Nat → Nat} {A : Nat → Prop} {post : Int64 → fh_T → Prop} {w : fh_T} {a1 : Int64} {a2 : Int64} (h : wKXOp_takeIn post w a1 a2) : Met l yXOp_takeIn (.code yXOp_takeIn cXOp_takeIn 6 (some .long) :: lg_tbl) ({ frames := 0, cells := 0, slots := 0, locals := 0 } : Room) (va_Pc [.long a1, .long a2] (kB D ca A w)) (va_Ql post (fxC (fh_ok D ca A)) A) 0 0 A := by
  refine fx_start (by decide +kernel) (Nat.le_of_ble_eq_true rfl) ?_
  intro p e s m below meth c ls hx hb hr hml hown hts hlocks hnm hB hl
  exact sKXOp_takeIn_in ⟨hx, hb, hr, hml, hown, hts, hlocks, hB.2.2.1, hB.2.2.2.1, hB.2.2.2.2, hB.2.1, hnm⟩ w a1 a2 h _ _ ls hB.1 va_S.rf hl
