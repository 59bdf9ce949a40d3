def wKXW_linkAt (post : Int64 → fh_T → Prop) (w : fh_T) (a0 : Nat) (a1 : Int32) (a2 : Int32) (a3 : Int32) : Prop := (∃ fs2, w a0 = some (.inr (1, fs2)) ∧ (wKXW_memberAt (fun r1 w_1 => ((r1 = none → (post 0 w_1)) ∧ (∀ y4, r1 = some y4 → ((a3 < 0 → (post 0 w_1)) ∧ (¬ a3 < 0 → (∃ x6, fh_g w_1 y4 7 0 (.ref x6) ∧ (∃ x8, fh_g w_1 x6 5 4 (.ref x8) ∧ (∃ n10 z11, w_1 x8 = some (.inl (2, n10, z11)) ∧ ((a3 < (nI n10) → (∃ x14, fh_g w_1 y4 7 0 (.ref x14) ∧ (∃ x16, fh_g w_1 x14 5 4 (.ref x16) ∧ (∃ n18 f19, w_1 x16 = some (.inl (2, n18, .inr (.inl f19))) ∧ vp_in a3 n18 ∧ (post (f19 (Int32.toNatClampNeg a3)) w_1))))) ∧ (¬ a3 < (nI n10) → (post 0 w_1))))))))))) w a0 a1 a2))
set_option maxRecDepth 100000 in
set_option maxHeartbeats 4000000 in
theorem sKXW_linkAt_in {p : Program} {l : Launch} {e : Env} {s : State} {m : MethodId} {args : Array Value} {below : List Frame} {meth : Method} {c : Code} {D : va_G} {ca : Nat → Nat} {A : Nat → Prop} {post : Int64 → fh_T → Prop} (C0 : kCx p s m args meth c D ca A RXW cXW_linkAt 5 (some .long) "linkAt") : ∀ (w : fh_T) (a0 : Nat) (a1 : Int32) (a2 : Int32) (a3 : Int32), wKXW_linkAt post w a0 a1 a2 a3 → ∀ (H : Heap) (locs : List Loc) (ls : Array Slot), fh_ok D ca A w H → va_S A s.heap H locs → lv_has ls 5 [(0, .ref a0), (1, .int a1), (2, .int a2), (3, .int a3)] → W p l e ({ frames := 2, cells := 0, slots := 0, locals := 44 } : Room) s m args below meth c H locs 0 0 (MQ below (va_Ql post (fxC (fh_ok D ca A)) A) args s 0 0 A) (F0 m 0 ls []) := by
  obtain ⟨hx, hb, hr, hml, hown, hts, hlocks, hK, hN, hE, hA, hin⟩ := id C0
  intro w a0 a1 a2 a3 h H locs ls hP hS hl
  replace h : (∃ fs2, w a0 = some (.inr (1, fs2)) ∧ (wKXW_memberAt (fun r1 w_1 => ((r1 = none → (post 0 w_1)) ∧ (∀ y4, r1 = some y4 → ((a3 < 0 → (post 0 w_1)) ∧ (¬ a3 < 0 → (∃ x6, fh_g w_1 y4 7 0 (.ref x6) ∧ (∃ x8, fh_g w_1 x6 5 4 (.ref x8) ∧ (∃ n10 z11, w_1 x8 = some (.inl (2, n10, z11)) ∧ ((a3 < (nI n10) → (∃ x14, fh_g w_1 y4 7 0 (.ref x14) ∧ (∃ x16, fh_g w_1 x14 5 4 (.ref x16) ∧ (∃ n18 f19, w_1 x16 = some (.inl (2, n18, .inr (.inl f19))) ∧ vp_in a3 n18 ∧ (post (f19 (Int32.toNatClampNeg a3)) w_1))))) ∧ (¬ a3 < (nI n10) → (post 0 w_1))))))))))) w a0 a1 a2)) := h
  refine lv_aload_n hx hb dXW_linkAt_0 rfl (lv_at hl 0 rfl) ?_
  refine lv_iload_n hx hb dXW_linkAt_1 rfl (lv_at hl 1 rfl) ?_
  refine lv_iload_n hx hb dXW_linkAt_2 rfl (lv_at hl 2 rfl) ?_
  obtain ⟨fs2, g3, h⟩ := h
  refine va_calle (va_runV (As := [.int a1, .int a2]) (rest := []) ⟨hx, hb, hml, hown, hts⟩ (cKXW_memberAt h) (gc_XW_119 hts hN ⟨Nat.le_of_ble_eq_true rfl, Nat.le_of_ble_eq_true rfl⟩) (k_preV g3 rfl hP hS hA hK hN hE) rfl rfl hl.1 rfl (lv_room (Nat.le_of_ble_eq_true rfl)) dXW_linkAt_3 ⟨Nat.le_of_ble_eq_true rfl, Nat.le_of_ble_eq_true rfl⟩) hS (fun _ _ q => q) (fun _ q => q) (fun r1 w_1 t H locs ht hvm h hP hz hk hS => ?_)
  rw [fxC, ht] at hP
  rcases e22 : r1 with _ | y4
  · replace h := h.1 e22
    subst e22
    refine lv_astoreN (lv' := [(4, .null), (0, .ref a0), (1, .int a1), (2, .int a2), (3, .int a3)]) hx hb dXW_linkAt_6 hl (by decide) rfl (fun ls hl => ?_)
    refine lv_aloadN hx hb dXW_linkAt_8 (lv_at hl 0 rfl) ?_
    refine lv_ifnullN (tgt := 30) hx hb dXW_linkAt_10 (by decide) ?_
    refine lv_lconst (v := 0) hx hb dXW_linkAt_30 (by decide) ?_
    exact W.lret hx hb hr (fun t ht hW => ⟨⟨_, _, rfl, h, by rw [fxC, ht]; exact hP⟩, hS.F ht⟩) hS.2.2 dXW_linkAt_31 hlocks
  · replace h := h.2 y4 e22
    subst e22
    refine lv_astore (lv' := [(4, .ref y4), (0, .ref a0), (1, .int a1), (2, .int a2), (3, .int a3)]) hx hb dXW_linkAt_6 hl (by decide) rfl (fun ls hl => ?_)
    refine lv_aload hx hb dXW_linkAt_8 (lv_at hl 0 rfl) ?_
    refine lv_ifnull hx hb dXW_linkAt_10 ?_
    refine lv_iload_n hx hb dXW_linkAt_13 rfl (lv_at hl 4 rfl) ?_
    refine lv_if_lt (tgt := 30) hx hb dXW_linkAt_14 (by decide) (fun c5 => ?_) (fun c5 => ?_)
    · replace h := h.1 c5
      refine lv_lconst (v := 0) hx hb dXW_linkAt_30 (by decide) ?_
      exact W.lret hx hb hr (fun t ht hW => ⟨⟨_, _, rfl, h, by rw [fxC, ht]; exact hP⟩, hS.F ht⟩) hS.2.2 dXW_linkAt_31 hlocks
    · replace h := h.2 c5
      refine lv_iload_n hx hb dXW_linkAt_17 rfl (lv_at hl 4 rfl) ?_
      refine lv_aload hx hb dXW_linkAt_18 (lv_at hl 0 rfl) ?_
      obtain ⟨x6, g7, h⟩ := h
      refine kg_XW_123 hx hb hown hts hN hK hP g7 dXW_linkAt_20 ?_
      obtain ⟨x8, g9, h⟩ := h
      refine kg_XW_141 hx hb hown hts hN hK hP g9 dXW_linkAt_23 ?_
      obtain ⟨n10, z11, g12, h⟩ := h
      refine kal 2 rfl rfl hx hb hK hP g12 dXW_linkAt_26 ?_
      refine lv_icmp_lt (tgt := 32) hx hb dXW_linkAt_27 (by decide) (fun c13 => ?_) (fun c13 => ?_)
      · replace h := h.1 c13
        refine lv_aload hx hb dXW_linkAt_32 (lv_at hl 0 rfl) ?_
        obtain ⟨x14, g15, h⟩ := h
        refine kg_XW_123 hx hb hown hts hN hK hP g15 dXW_linkAt_34 ?_
        obtain ⟨x16, g17, h⟩ := h
        refine kg_XW_141 hx hb hown hts hN hK hP g17 dXW_linkAt_37 ?_
        refine lv_iload_n hx hb dXW_linkAt_40 rfl (lv_at hl 4 rfl) ?_
        obtain ⟨n18, f19, g20, g21, h⟩ := h
        refine kla hx hb hK hP g20 g21 dXW_linkAt_41 ?_
        exact W.lret hx hb hr (fun t ht hW => ⟨⟨_, _, rfl, h, by rw [fxC, ht]; exact hP⟩, hS.F ht⟩) hS.2.2 dXW_linkAt_42 hlocks
      · replace h := h.2 c13
        refine lv_lconst (v := 0) hx hb dXW_linkAt_30 (by decide) ?_
        exact W.lret hx hb hr (fun t ht hW => ⟨⟨_, _, rfl, h, by rw [fxC, ht]; exact hP⟩, hS.F ht⟩) hS.2.2 dXW_linkAt_31 hlocks
set_option maxRecDepth 100000 in
set_option maxHeartbeats 4000000 in
theorem cKXW_linkAt {l : Launch} {D : va_G} {ca : Nat → Nat} {A : Nat → Prop} {post : Int64 → fh_T → Prop} {w : fh_T} {a0 : Nat} {a1 : Int32} {a2 : Int32} {a3 : Int32} (h : wKXW_linkAt post w a0 a1 a2 a3) : Met l yXW_linkAt (.code yXW_linkAt cXW_linkAt 5 (some .long) :: lg_tbl) ({ frames := 2, cells := 0, slots := 0, locals := 44 } : Room) (va_Pc [.ref a0, .int a1, .int a2, .int a3] (kB D ca A w)) (va_Ql post (fxC (fh_ok D ca A)) A) 0 0 A := by
  refine fx_start (by decide +kernel) (Nat.le_of_ble_eq_true rfl) ?_
  intro p e s m below meth c ls hx hb hr hml hown hts hlocks hnm hB hl
  exact sKXW_linkAt_in ⟨hx, hb, hr, hml, hown, hts, hlocks, hB.2.2.1, hB.2.2.2.1, hB.2.2.2.2, hB.2.1, hnm⟩ w a0 a1 a2 a3 h _ _ ls hB.1 va_S.rf hl
def wKXW_heads (post : Int32 → fh_T → Prop) (w : fh_T) (a0 : Nat) (a1 : Int32) : Prop := (∃ fs2, w a0 = some (.inr (1, fs2)) ∧ (wKXW_replicaAt (fun r1 w_1 => ((r1 = none → (post (-1) w_1)) ∧ (∀ y4, r1 = some y4 → (∃ x5, fh_g w_1 y4 4 2 (.ref x5) ∧ (∃ x7, fh_g w_1 x5 3 1 (.int x7) ∧ (post x7 w_1)))))) w a0 a1))
set_option maxRecDepth 100000 in
set_option maxHeartbeats 4000000 in
theorem sKXW_heads_in {p : Program} {l : Launch} {e : Env} {s : State} {m : MethodId} {args : Array Value} {below : List Frame} {meth : Method} {c : Code} {D : va_G} {ca : Nat → Nat} {A : Nat → Prop} {post : Int32 → fh_T → Prop} (C0 : kCx p s m args meth c D ca A RXW cXW_heads 3 (some .int) "heads") : ∀ (w : fh_T) (a0 : Nat) (a1 : Int32), wKXW_heads post w a0 a1 → ∀ (H : Heap) (locs : List Loc) (ls : Array Slot), fh_ok D ca A w H → va_S A s.heap H locs → lv_has ls 3 [(0, .ref a0), (1, .int a1)] → W p l e ({ frames := 1, cells := 0, slots := 0, locals := 21 } : Room) s m args below meth c H locs 0 0 (MQ below (va_Qi post (fxC (fh_ok D ca A)) A) args s 0 0 A) (F0 m 0 ls []) := by
  obtain ⟨hx, hb, hr, hml, hown, hts, hlocks, hK, hN, hE, hA, hin⟩ := id C0
  intro w a0 a1 h H locs ls hP hS hl
  replace h : (∃ fs2, w a0 = some (.inr (1, fs2)) ∧ (wKXW_replicaAt (fun r1 w_1 => ((r1 = none → (post (-1) w_1)) ∧ (∀ y4, r1 = some y4 → (∃ x5, fh_g w_1 y4 4 2 (.ref x5) ∧ (∃ x7, fh_g w_1 x5 3 1 (.int x7) ∧ (post x7 w_1)))))) w a0 a1)) := h
  refine lv_aload_n hx hb dXW_heads_0 rfl (lv_at hl 0 rfl) ?_
  refine lv_iload_n hx hb dXW_heads_1 rfl (lv_at hl 1 rfl) ?_
  obtain ⟨fs2, g3, h⟩ := h
  refine va_calle (va_runV (As := [.int a1]) (rest := []) ⟨hx, hb, hml, hown, hts⟩ (cKXW_replicaAt h) (gc_XW_35 hts hN ⟨Nat.le_of_ble_eq_true rfl, Nat.le_of_ble_eq_true rfl⟩) (k_preV g3 rfl hP hS hA hK hN hE) rfl rfl hl.1 rfl (lv_room (Nat.le_of_ble_eq_true rfl)) dXW_heads_2 ⟨Nat.le_of_ble_eq_true rfl, Nat.le_of_ble_eq_true rfl⟩) hS (fun _ _ q => q) (fun _ q => q) (fun r1 w_1 t H locs ht hvm h hP hz hk hS => ?_)
  rw [fxC, ht] at hP
  rcases e9 : r1 with _ | y4
  · replace h := h.1 e9
    subst e9
    refine lv_astore_nN (lv' := [(2, .null), (0, .ref a0), (1, .int a1)]) hx hb dXW_heads_5 rfl hl (by decide) rfl (fun ls hl => ?_)
    refine lv_aload_nN hx hb dXW_heads_6 rfl (lv_at hl 0 rfl) ?_
    refine lv_ifnonnullN hx hb dXW_heads_7 ?_
    refine lv_iconst (v := (-1)) hx hb dXW_heads_10 (by decide) ?_
    refine lv_goto (tgt := 21) hx hb dXW_heads_11 (by decide) ?_
    exact W.iret hx hb hr (fun t ht hW => ⟨⟨_, _, rfl, h, by rw [fxC, ht]; exact hP⟩, hS.F ht⟩) hS.2.2 dXW_heads_21 hlocks
  · replace h := h.2 y4 e9
    subst e9
    refine lv_astore_n (lv' := [(2, .ref y4), (0, .ref a0), (1, .int a1)]) hx hb dXW_heads_5 rfl hl (by decide) rfl (fun ls hl => ?_)
    refine lv_aload_n hx hb dXW_heads_6 rfl (lv_at hl 0 rfl) ?_
    refine lv_ifnonnull (tgt := 14) hx hb dXW_heads_7 (by decide) ?_
    refine lv_aload_n hx hb dXW_heads_14 rfl (lv_at hl 0 rfl) ?_
    obtain ⟨x5, g6, h⟩ := h
    refine kg_XW_43 hx hb hown hts hN hK hP g6 dXW_heads_15 ?_
    obtain ⟨x7, g8, h⟩ := h
    refine kg_XW_47 hx hb hown hts hN hK hP g8 dXW_heads_18 ?_
    exact W.iret hx hb hr (fun t ht hW => ⟨⟨_, _, rfl, h, by rw [fxC, ht]; exact hP⟩, hS.F ht⟩) hS.2.2 dXW_heads_21 hlocks
set_option maxRecDepth 100000 in
set_option maxHeartbeats 4000000 in
theorem cKXW_heads {l : Launch} {D : va_G} {ca : Nat → Nat} {A : Nat → Prop} {post : Int32 → fh_T → Prop} {w : fh_T} {a0 : Nat} {a1 : Int32} (h : wKXW_heads post w a0 a1) : Met l yXW_heads (.code yXW_heads cXW_heads 3 (some .int) :: lg_tbl) ({ frames := 1, cells := 0, slots := 0, locals := 21 } : Room) (va_Pc [.ref a0, .int a1] (kB D ca A w)) (va_Qi post (fxC (fh_ok D ca A)) A) 0 0 A := by
  refine fx_start (by decide +kernel) (Nat.le_of_ble_eq_true rfl) ?_
  intro p e s m below meth c ls hx hb hr hml hown hts hlocks hnm hB hl
  exact sKXW_heads_in ⟨hx, hb, hr, hml, hown, hts, hlocks, hB.2.2.1, hB.2.2.2.1, hB.2.2.2.2, hB.2.1, hnm⟩ w a0 a1 h _ _ ls hB.1 va_S.rf hl
def wKXW_headAt (post : Int64 → fh_T → Prop) (w : fh_T) (a0 : Nat) (a1 : Int32) (a2 : Int32) : Prop := (∃ fs2, w a0 = some (.inr (1, fs2)) ∧ (wKXW_replicaAt (fun r1 w_1 => ((r1 = none → (post 0 w_1)) ∧ (∀ y4, r1 = some y4 → (wKXW_headHash (fun r5 w_5 => (post r5 w_5)) w_1 y4 a2)))) w a0 a1))
set_option maxRecDepth 100000 in
set_option maxHeartbeats 4000000 in
theorem sKXW_headAt_in {p : Program} {l : Launch} {e : Env} {s : State} {m : MethodId} {args : Array Value} {below : List Frame} {meth : Method} {c : Code} {D : va_G} {ca : Nat → Nat} {A : Nat → Prop} {post : Int64 → fh_T → Prop} (C0 : kCx p s m args meth c D ca A RXW cXW_headAt 4 (some .long) "headAt") : ∀ (w : fh_T) (a0 : Nat) (a1 : Int32) (a2 : Int32), wKXW_headAt post w a0 a1 a2 → ∀ (H : Heap) (locs : List Loc) (ls : Array Slot), fh_ok D ca A w H → va_S A s.heap H locs → lv_has ls 4 [(0, .ref a0), (1, .int a1), (2, .int a2)] → W p l e ({ frames := 2, cells := 0, slots := 0, locals := 43 } : Room) s m args below meth c H locs 0 0 (MQ below (va_Ql post (fxC (fh_ok D ca A)) A) args s 0 0 A) (F0 m 0 ls []) := by
  obtain ⟨hx, hb, hr, hml, hown, hts, hlocks, hK, hN, hE, hA, hin⟩ := id C0
  intro w a0 a1 a2 h H locs ls hP hS hl
  replace h : (∃ fs2, w a0 = some (.inr (1, fs2)) ∧ (wKXW_replicaAt (fun r1 w_1 => ((r1 = none → (post 0 w_1)) ∧ (∀ y4, r1 = some y4 → (wKXW_headHash (fun r5 w_5 => (post r5 w_5)) w_1 y4 a2)))) w a0 a1)) := h
  refine lv_aload_n hx hb dXW_headAt_0 rfl (lv_at hl 0 rfl) ?_
  refine lv_iload_n hx hb dXW_headAt_1 rfl (lv_at hl 1 rfl) ?_
  obtain ⟨fs2, g3, h⟩ := h
  refine va_calle (va_runV (As := [.int a1]) (rest := []) ⟨hx, hb, hml, hown, hts⟩ (cKXW_replicaAt h) (gc_XW_35 hts hN ⟨Nat.le_of_ble_eq_true rfl, Nat.le_of_ble_eq_true rfl⟩) (k_preV g3 rfl hP hS hA hK hN hE) rfl rfl hl.1 rfl (lv_room (Nat.le_of_ble_eq_true rfl)) dXW_headAt_2 ⟨Nat.le_of_ble_eq_true rfl, Nat.le_of_ble_eq_true rfl⟩) hS (fun _ _ q => q) (fun _ q => q) (fun r1 w_1 t H locs ht hvm h hP hz hk hS => ?_)
  rw [fxC, ht] at hP
  rcases e6 : r1 with _ | y4
  · replace h := h.1 e6
    subst e6
    refine lv_astore_nN (lv' := [(3, .null), (0, .ref a0), (1, .int a1), (2, .int a2)]) hx hb dXW_headAt_5 rfl hl (by decide) rfl (fun ls hl => ?_)
    refine lv_aload_nN hx hb dXW_headAt_6 rfl (lv_at hl 0 rfl) ?_
    refine lv_ifnonnullN hx hb dXW_headAt_7 ?_
    refine lv_lconst (v := 0) hx hb dXW_headAt_10 (by decide) ?_
    refine lv_goto (tgt := 19) hx hb dXW_headAt_11 (by decide) ?_
    exact W.lret hx hb hr (fun t ht hW => ⟨⟨_, _, rfl, h, by rw [fxC, ht]; exact hP⟩, hS.F ht⟩) hS.2.2 dXW_headAt_19 hlocks
  · replace h := h.2 y4 e6
    subst e6
    refine lv_astore_n (lv' := [(3, .ref y4), (0, .ref a0), (1, .int a1), (2, .int a2)]) hx hb dXW_headAt_5 rfl hl (by decide) rfl (fun ls hl => ?_)
    refine lv_aload_n hx hb dXW_headAt_6 rfl (lv_at hl 0 rfl) ?_
    refine lv_ifnonnull (tgt := 14) hx hb dXW_headAt_7 (by decide) ?_
    refine lv_aload_n hx hb dXW_headAt_14 rfl (lv_at hl 0 rfl) ?_
    refine lv_iload_n hx hb dXW_headAt_15 rfl (lv_at hl 3 rfl) ?_
    refine va_calll (va_runS (As := [.ref y4, .int a2]) (rest := []) ⟨hx, hb, hml, hown, hts⟩ (cKXW_headHash h) (gc_XW_59 hts hN ⟨Nat.le_of_ble_eq_true rfl, Nat.le_of_ble_eq_true rfl⟩) (k_preS hP hS hA hK hN hE) rfl rfl hl.1 rfl (lv_room (Nat.le_of_ble_eq_true rfl)) dXW_headAt_16 ⟨Nat.le_of_ble_eq_true rfl, Nat.le_of_ble_eq_true rfl⟩) hS (fun _ _ q => q) (fun _ q => q) (fun r5 w_5 t H locs ht hvm h hP hz hk hS => ?_)
    rw [fxC, ht] at hP
    exact W.lret hx hb hr (fun t ht hW => ⟨⟨_, _, rfl, h, by rw [fxC, ht]; exact hP⟩, hS.F ht⟩) hS.2.2 dXW_headAt_19 hlocks
set_option maxRecDepth 100000 in
set_option maxHeartbeats 4000000 in
theorem cKXW_headAt {l : Launch} {D : va_G} {ca : Nat → Nat} {A : Nat → Prop} {post : Int64 → fh_T → Prop} {w : fh_T} {a0 : Nat} {a1 : Int32} {a2 : Int32} (h : wKXW_headAt post w a0 a1 a2) : Met l yXW_headAt (.code yXW_headAt cXW_headAt 4 (some .long) :: lg_tbl) ({ frames := 2, cells := 0, slots := 0, locals := 43 } : Room) (va_Pc [.ref a0, .int a1, .int a2] (kB D ca A w)) (va_Ql post (fxC (fh_ok D ca A)) A) 0 0 A := by
  refine fx_start (by decide +kernel) (Nat.le_of_ble_eq_true rfl) ?_
  intro p e s m below meth c ls hx hb hr hml hown hts hlocks hnm hB hl
  exact sKXW_headAt_in ⟨hx, hb, hr, hml, hown, hts, hlocks, hB.2.2.1, hB.2.2.2.1, hB.2.2.2.2, hB.2.1, hnm⟩ w a0 a1 a2 h _ _ ls hB.1 va_S.rf hl
noncomputable def wKXRe_stateOf_4 (post : Int32 → fh_T → Prop) (n : Nat) : fh_T → Nat → Int32 → Int32 → Int32 → Prop := Nat.rec (motive := fun _ => fh_T → Nat → Int32 → Int32 → Int32 → Prop) (fun _ _ _ _ _ => False) (fun _ K4 w v0 v1 v2 v3 => (∃ x1, fh_g w v0 4 1 (.ref x1) ∧ (∃ x3, fh_g w x1 3 1 (.int x3) ∧ ((x3 ≤ v3 → (post v2 w)) ∧ (¬ x3 ≤ v3 → (∃ x6, fh_g w v0 4 1 (.ref x6) ∧ (∃ x8, fh_g w x6 3 0 (.ref x8) ∧ (∃ n10 f11 y12, w x8 = some (.inl (0, n10, .inr (.inr (.inr (.inr f11))))) ∧ vp_in v3 n10 ∧ f11 (Int32.toNatClampNeg v3) = some y12 ∧ (∃ x16, fh_g w y12 7 0 (.ref x16) ∧ (∃ fs19, w x16 = some (.inr (5, fs19)) ∧ (wKXOp_isOf (fun r18 w_18 => ((r18 = 0 → (∃ fs23, w_18 x16 = some (.inr (5, fs23)) ∧ (wKXOp_isOf (fun r22 w_22 => ((r22 = 0 → (K4 w_22 v0 v1 v2 (v3 + 1))) ∧ (¬ r22 = 0 → (∃ x26, fh_g w_22 x16 5 3 (.int x26) ∧ (K4 w_22 v0 v1 (v2 + x26) (v3 + 1)))))) w_18 x16 1 v1))) ∧ (¬ r18 = 0 → (∃ x28, fh_g w_18 x16 5 3 (.int x28) ∧ (K4 w_18 v0 v1 x28 (v3 + 1)))))) w x16 0 v1))))))))))) n
def wKXRe_stateOf (post : Int32 → fh_T → Prop) (w : fh_T) (a0 : Nat) (a1 : Int32) : Prop := (∃ k, wKXRe_stateOf_4 post  k w a0 a1 0 0)
set_option maxRecDepth 100000 in
set_option maxHeartbeats 4000000 in
theorem sKXRe_stateOf_4 {p : Program} {l : Launch} {e : Env} {s : State} {m : MethodId} {args : Array Value} {below : List Frame} {meth : Method} {c : Code} {D : va_G} {ca : Nat → Nat} {A : Nat → Prop} {post : Int32 → fh_T → Prop} (C0 : kCx p s m args meth c D ca A RXRe cXRe_stateOf 5 (some .int) "stateOf") : ∀ (n : Nat) (w : fh_T) (v0 : Nat) (v1 : Int32) (v2 : Int32) (v3 : Int32), wKXRe_stateOf_4 post  n w v0 v1 v2 v3 → ∀ (H : Heap) (locs : List Loc) (ls : Array Slot), fh_ok D ca A w H → va_S A s.heap H locs → lv_has ls 5 [(0, .ref v0), (1, .int v1), (2, .int v2), (3, .int v3)] → W p l e ({ frames := 1, cells := 0, slots := 0, locals := 22 } : Room) s m args below meth c H locs 0 0 (MQ below (va_Qi post (fxC (fh_ok D ca A)) A) args s 0 0 A) (F0 m 4 ls []) := by
  obtain ⟨hx, hb, hr, hml, hown, hts, hlocks, hK, hN, hE, hA, hin⟩ := id C0
  intro n
  induction n with
  | zero => exact fun _ _ _ _ _ h => h.elim
  | succ n hK4 =>
    intro w v0 v1 v2 v3 h H locs ls hP hS hl
    replace h : (∃ x1, fh_g w v0 4 1 (.ref x1) ∧ (∃ x3, fh_g w x1 3 1 (.int x3) ∧ ((x3 ≤ v3 → (post v2 w)) ∧ (¬ x3 ≤ v3 → (∃ x6, fh_g w v0 4 1 (.ref x6) ∧ (∃ x8, fh_g w x6 3 0 (.ref x8) ∧ (∃ n10 f11 y12, w x8 = some (.inl (0, n10, .inr (.inr (.inr (.inr f11))))) ∧ vp_in v3 n10 ∧ f11 (Int32.toNatClampNeg v3) = some y12 ∧ (∃ x16, fh_g w y12 7 0 (.ref x16) ∧ (∃ fs19, w x16 = some (.inr (5, fs19)) ∧ (wKXOp_isOf (fun r18 w_18 => ((r18 = 0 → (∃ fs23, w_18 x16 = some (.inr (5, fs23)) ∧ (wKXOp_isOf (fun r22 w_22 => ((r22 = 0 → ((wKXRe_stateOf_4 post  n) w_22 v0 v1 v2 (v3 + 1))) ∧ (¬ r22 = 0 → (∃ x26, fh_g w_22 x16 5 3 (.int x26) ∧ ((wKXRe_stateOf_4 post  n) w_22 v0 v1 (v2 + x26) (v3 + 1)))))) w_18 x16 1 v1))) ∧ (¬ r18 = 0 → (∃ x28, fh_g w_18 x16 5 3 (.int x28) ∧ ((wKXRe_stateOf_4 post  n) w_18 v0 v1 x28 (v3 + 1)))))) w x16 0 v1)))))))))) := h
    refine lv_iload_n hx hb dXRe_stateOf_4 rfl (lv_at hl 3 rfl) ?_
    refine lv_aload_n hx hb dXRe_stateOf_5 rfl (lv_at hl 0 rfl) ?_
    obtain ⟨x1, g2, h⟩ := h
    refine kg_XRe_12 hx hb hown hts hN hK hP g2 dXRe_stateOf_6 ?_
    obtain ⟨x3, g4, h⟩ := h
    refine kg_XRe_137 hx hb hown hts hN hK hP g4 dXRe_stateOf_9 ?_
    refine lv_icmp_ge (tgt := 72) hx hb dXRe_stateOf_12 (by decide) (fun c5 => ?_) (fun c5 => ?_)
    · replace h := h.1 c5
      refine lv_iload_n hx hb dXRe_stateOf_72 rfl (lv_at hl 2 rfl) ?_
      exact W.iret hx hb hr (fun t ht hW => ⟨⟨_, _, rfl, h, by rw [fxC, ht]; exact hP⟩, hS.F ht⟩) hS.2.2 dXRe_stateOf_73 hlocks
    · replace h := h.2 c5
      refine lv_aload_n hx hb dXRe_stateOf_15 rfl (lv_at hl 0 rfl) ?_
      obtain ⟨x6, g7, h⟩ := h
      refine kg_XRe_12 hx hb hown hts hN hK hP g7 dXRe_stateOf_16 ?_
      obtain ⟨x8, g9, h⟩ := h
      refine kg_XRe_139 hx hb hown hts hN hK hP g9 dXRe_stateOf_19 ?_
      refine lv_iload_n hx hb dXRe_stateOf_22 rfl (lv_at hl 3 rfl) ?_
      obtain ⟨n10, f11, y12, g13, g14, g15, h⟩ := h
      refine kaa 0 rfl rfl hx hb hK hP g13 g14 g15 dXRe_stateOf_23 ?_
      obtain ⟨x16, g17, h⟩ := h
      refine kg_XRe_77 hx hb hown hts hN hK hP g17 dXRe_stateOf_24 ?_
      refine lv_astore (lv' := [(4, .ref x16), (0, .ref v0), (1, .int v1), (2, .int v2), (3, .int v3)]) hx hb dXRe_stateOf_27 hl (by decide) rfl (fun ls hl => ?_)
      refine lv_aload hx hb dXRe_stateOf_29 (lv_at hl 0 rfl) ?_
      refine lv_iconst (v := 0) hx hb dXRe_stateOf_31 (by decide) ?_
      refine lv_iload_n hx hb dXRe_stateOf_32 rfl (lv_at hl 2 rfl) ?_
      obtain ⟨fs19, g20, h⟩ := h
      refine va_calli (va_runV (As := [.int 0, .int v1]) (rest := []) ⟨hx, hb, hml, hown, hts⟩ (cKXOp_isOf h) (gc_XRe_146 hts hN ⟨Nat.le_of_ble_eq_true rfl, Nat.le_of_ble_eq_true rfl⟩) (k_preV g20 rfl hP hS hA hK hN hE) rfl rfl hl.1 rfl (lv_room (Nat.le_of_ble_eq_true rfl)) dXRe_stateOf_33 ⟨Nat.le_of_ble_eq_true rfl, Nat.le_of_ble_eq_true rfl⟩) hS (fun _ _ q => q) (fun _ q => q) (fun r18 w_18 t H locs ht hvm h hP hz hk hS => ?_)
      rw [fxC, ht] at hP
      refine lv_if_eq (tgt := 48) hx hb dXRe_stateOf_36 (by decide) (fun c21 => ?_) (fun c21 => ?_)
      · replace h := h.1 c21
        refine lv_aload hx hb dXRe_stateOf_48 (lv_at hl 0 rfl) ?_
        refine lv_iconst (v := 1) hx hb dXRe_stateOf_50 (by decide) ?_
        refine lv_iload_n hx hb dXRe_stateOf_51 rfl (lv_at hl 2 rfl) ?_
        obtain ⟨fs23, g24, h⟩ := h
        refine va_calli (va_runV (As := [.int 1, .int v1]) (rest := []) ⟨hx, hb, hml, hown, hts⟩ (cKXOp_isOf h) (gc_XRe_146 hts hN ⟨Nat.le_of_ble_eq_true rfl, Nat.le_of_ble_eq_true rfl⟩) (k_preV g24 rfl hP hS hA hK hN hE) rfl rfl hl.1 rfl (lv_room (Nat.le_of_ble_eq_true rfl)) dXRe_stateOf_52 ⟨Nat.le_of_ble_eq_true rfl, Nat.le_of_ble_eq_true rfl⟩) hS (fun _ _ q => q) (fun _ q => q) (fun r22 w_22 t H locs ht hvm h hP hz hk hS => ?_)
        rw [fxC, ht] at hP
        refine lv_if_eq (tgt := 66) hx hb dXRe_stateOf_55 (by decide) (fun c25 => ?_) (fun c25 => ?_)
        · replace h := h.1 c25
          refine lv_iinc (v := v3 + 1) (lv' := [(3, .int (v3 + 1)), (4, .ref x16), (0, .ref v0), (1, .int v1), (2, .int v2)]) hx hb dXRe_stateOf_66 hl (k := 4) rfl rfl (by decide) rfl (fun ls hl => ?_)
          refine lv_goto (tgt := 4) hx hb dXRe_stateOf_69 (by decide) ?_
          exact hK4 w_22 v0 v1 v2 (v3 + 1) h H locs ls hP hS (lv_sub hl [2, 3, 4, 0] rfl)
        · replace h := h.2 c25
          refine lv_iload_n hx hb dXRe_stateOf_58 rfl (lv_at hl 3 rfl) ?_
          refine lv_aload hx hb dXRe_stateOf_59 (lv_at hl 0 rfl) ?_
          obtain ⟨x26, g27, h⟩ := h
          refine kg_XRe_150 hx hb hown hts hN hK hP g27 dXRe_stateOf_61 ?_
          refine lv_iadd hx hb dXRe_stateOf_64 ?_
          refine lv_istore_n (lv' := [(2, .int (v2 + x26)), (4, .ref x16), (0, .ref v0), (1, .int v1), (3, .int v3)]) hx hb dXRe_stateOf_65 rfl hl (by decide) rfl (fun ls hl => ?_)
          refine lv_iinc (v := v3 + 1) (lv' := [(3, .int (v3 + 1)), (2, .int (v2 + x26)), (4, .ref x16), (0, .ref v0), (1, .int v1)]) hx hb dXRe_stateOf_66 hl (k := 4) rfl rfl (by decide) rfl (fun ls hl => ?_)
          refine lv_goto (tgt := 4) hx hb dXRe_stateOf_69 (by decide) ?_
          exact hK4 w_22 v0 v1 (v2 + x26) (v3 + 1) h H locs ls hP hS (lv_sub hl [3, 4, 1, 0] rfl)
      · replace h := h.2 c21
        refine lv_aload hx hb dXRe_stateOf_39 (lv_at hl 0 rfl) ?_
        obtain ⟨x28, g29, h⟩ := h
        refine kg_XRe_150 hx hb hown hts hN hK hP g29 dXRe_stateOf_41 ?_
        refine lv_istore_n (lv' := [(2, .int x28), (4, .ref x16), (0, .ref v0), (1, .int v1), (3, .int v3)]) hx hb dXRe_stateOf_44 rfl hl (by decide) rfl (fun ls hl => ?_)
        refine lv_goto (tgt := 66) hx hb dXRe_stateOf_45 (by decide) ?_
        refine lv_iinc (v := v3 + 1) (lv' := [(3, .int (v3 + 1)), (2, .int x28), (4, .ref x16), (0, .ref v0), (1, .int v1)]) hx hb dXRe_stateOf_66 hl (k := 4) rfl rfl (by decide) rfl (fun ls hl => ?_)
        refine lv_goto (tgt := 4) hx hb dXRe_stateOf_69 (by decide) ?_
        exact hK4 w_18 v0 v1 x28 (v3 + 1) h H locs ls hP hS (lv_sub hl [3, 4, 1, 0] rfl)
set_option maxRecDepth 100000 in
set_option maxHeartbeats 4000000 in
theorem sKXRe_stateOf_in {p : Program} {l : Launch} {e : Env} {s : State} {m : MethodId} {args : Array Value} {below : List Frame} {meth : Method} {c : Code} {D : va_G} {ca : Nat → Nat} {A : Nat → Prop} {post : Int32 → fh_T → Prop} (C0 : kCx p s m args meth c D ca A RXRe cXRe_stateOf 5 (some .int) "stateOf") : ∀ (w : fh_T) (a0 : Nat) (a1 : Int32), wKXRe_stateOf post w a0 a1 → ∀ (H : Heap) (locs : List Loc) (ls : Array Slot), fh_ok D ca A w H → va_S A s.heap H locs → lv_has ls 5 [(0, .ref a0), (1, .int a1)] → W p l e ({ frames := 1, cells := 0, slots := 0, locals := 22 } : Room) s m args below meth c H locs 0 0 (MQ below (va_Qi post (fxC (fh_ok D ca A)) A) args s 0 0 A) (F0 m 0 ls []) := by
  obtain ⟨hx, hb, hr, hml, hown, hts, hlocks, hK, hN, hE, hA, hin⟩ := id C0
  intro w a0 a1 h H locs ls hP hS hl
  replace h : (∃ k, wKXRe_stateOf_4 post  k w a0 a1 0 0) := h
  refine lv_iconst (v := 0) hx hb dXRe_stateOf_0 (by decide) ?_
  refine lv_istore_n (lv' := [(2, .int 0), (0, .ref a0), (1, .int a1)]) hx hb dXRe_stateOf_1 rfl hl (by decide) rfl (fun ls hl => ?_)
  refine lv_iconst (v := 0) hx hb dXRe_stateOf_2 (by decide) ?_
  refine lv_istore_n (lv' := [(3, .int 0), (2, .int 0), (0, .ref a0), (1, .int a1)]) hx hb dXRe_stateOf_3 rfl hl (by decide) rfl (fun ls hl => ?_)
  obtain ⟨k, h⟩ := h
  exact sKXRe_stateOf_4  C0  k w a0 a1 0 0 h H locs ls hP hS (lv_sub hl [2, 3, 1, 0] rfl)
set_option maxRecDepth 100000 in
set_option maxHeartbeats 4000000 in
theorem cKXRe_stateOf {l : Launch} {D : va_G} {ca : Nat → Nat} {A : Nat → Prop} {post : Int32 → fh_T → Prop} {w : fh_T} {a0 : Nat} {a1 : Int32} (h : wKXRe_stateOf post w a0 a1) : Met l yXRe_stateOf (.code yXRe_stateOf cXRe_stateOf 5 (some .int) :: lg_tbl) ({ frames := 1, cells := 0, slots := 0, locals := 22 } : Room) (va_Pc [.ref a0, .int a1] (kB D ca A w)) (va_Qi post (fxC (fh_ok D ca A)) A) 0 0 A := by
  refine fx_start (by decide +kernel) (Nat.le_of_ble_eq_true rfl) ?_
  intro p e s m below meth c ls hx hb hr hml hown hts hlocks hnm hB hl
  exact sKXRe_stateOf_in ⟨hx, hb, hr, hml, hown, hts, hlocks, hB.2.2.1, hB.2.2.2.1, hB.2.2.2.2, hB.2.1, hnm⟩ w a0 a1 h _ _ ls hB.1 va_S.rf hl
def wKXW_value (post : Int32 → fh_T → Prop) (w : fh_T) (a0 : Nat) (a1 : Int32) (a2 : Int32) : Prop := (∃ fs2, w a0 = some (.inr (1, fs2)) ∧ (wKXW_replicaAt (fun r1 w_1 => ((r1 = none → (post 0 w_1)) ∧ (∀ y4, r1 = some y4 → ((a2 < 0 → (post 0 w_1)) ∧ (¬ a2 < 0 → ((a2 < 8 → (∃ fs8, w_1 y4 = some (.inr (4, fs8)) ∧ (wKXRe_stateOf (fun r7 w_7 => (post r7 w_7)) w_1 y4 a2))) ∧ (¬ a2 < 8 → (post 0 w_1)))))))) w a0 a1))
set_option maxRecDepth 100000 in
set_option maxHeartbeats 4000000 in
theorem sKXW_value_in {p : Program} {l : Launch} {e : Env} {s : State} {m : MethodId} {args : Array Value} {below : List Frame} {meth : Method} {c : Code} {D : va_G} {ca : Nat → Nat} {A : Nat → Prop} {post : Int32 → fh_T → Prop} (C0 : kCx p s m args meth c D ca A RXW cXW_value 4 (some .int) "value") : ∀ (w : fh_T) (a0 : Nat) (a1 : Int32) (a2 : Int32), wKXW_value post w a0 a1 a2 → ∀ (H : Heap) (locs : List Loc) (ls : Array Slot), fh_ok D ca A w H → va_S A s.heap H locs → lv_has ls 4 [(0, .ref a0), (1, .int a1), (2, .int a2)] → W p l e ({ frames := 2, cells := 0, slots := 0, locals := 46 } : Room) s m args below meth c H locs 0 0 (MQ below (va_Qi post (fxC (fh_ok D ca A)) A) args s 0 0 A) (F0 m 0 ls []) := by
  obtain ⟨hx, hb, hr, hml, hown, hts, hlocks, hK, hN, hE, hA, hin⟩ := id C0
  intro w a0 a1 a2 h H locs ls hP hS hl
  replace h : (∃ fs2, w a0 = some (.inr (1, fs2)) ∧ (wKXW_replicaAt (fun r1 w_1 => ((r1 = none → (post 0 w_1)) ∧ (∀ y4, r1 = some y4 → ((a2 < 0 → (post 0 w_1)) ∧ (¬ a2 < 0 → ((a2 < 8 → (∃ fs8, w_1 y4 = some (.inr (4, fs8)) ∧ (wKXRe_stateOf (fun r7 w_7 => (post r7 w_7)) w_1 y4 a2))) ∧ (¬ a2 < 8 → (post 0 w_1)))))))) w a0 a1)) := h
  refine lv_aload_n hx hb dXW_value_0 rfl (lv_at hl 0 rfl) ?_
  refine lv_iload_n hx hb dXW_value_1 rfl (lv_at hl 1 rfl) ?_
  obtain ⟨fs2, g3, h⟩ := h
  refine va_calle (va_runV (As := [.int a1]) (rest := []) ⟨hx, hb, hml, hown, hts⟩ (cKXW_replicaAt h) (gc_XW_35 hts hN ⟨Nat.le_of_ble_eq_true rfl, Nat.le_of_ble_eq_true rfl⟩) (k_preV g3 rfl hP hS hA hK hN hE) rfl rfl hl.1 rfl (lv_room (Nat.le_of_ble_eq_true rfl)) dXW_value_2 ⟨Nat.le_of_ble_eq_true rfl, Nat.le_of_ble_eq_true rfl⟩) hS (fun _ _ q => q) (fun _ q => q) (fun r1 w_1 t H locs ht hvm h hP hz hk hS => ?_)
  rw [fxC, ht] at hP
  rcases e10 : r1 with _ | y4
  · replace h := h.1 e10
    subst e10
    refine lv_astore_nN (lv' := [(3, .null), (0, .ref a0), (1, .int a1), (2, .int a2)]) hx hb dXW_value_5 rfl hl (by decide) rfl (fun ls hl => ?_)
    refine lv_aload_nN hx hb dXW_value_6 rfl (lv_at hl 0 rfl) ?_
    refine lv_ifnullN (tgt := 20) hx hb dXW_value_7 (by decide) ?_
    refine lv_iconst (v := 0) hx hb dXW_value_20 (by decide) ?_
    refine lv_goto (tgt := 29) hx hb dXW_value_21 (by decide) ?_
    exact W.iret hx hb hr (fun t ht hW => ⟨⟨_, _, rfl, h, by rw [fxC, ht]; exact hP⟩, hS.F ht⟩) hS.2.2 dXW_value_29 hlocks
  · replace h := h.2 y4 e10
    subst e10
    refine lv_astore_n (lv' := [(3, .ref y4), (0, .ref a0), (1, .int a1), (2, .int a2)]) hx hb dXW_value_5 rfl hl (by decide) rfl (fun ls hl => ?_)
    refine lv_aload_n hx hb dXW_value_6 rfl (lv_at hl 0 rfl) ?_
    refine lv_ifnull hx hb dXW_value_7 ?_
    refine lv_iload_n hx hb dXW_value_10 rfl (lv_at hl 3 rfl) ?_
    refine lv_if_lt (tgt := 20) hx hb dXW_value_11 (by decide) (fun c5 => ?_) (fun c5 => ?_)
    · replace h := h.1 c5
      refine lv_iconst (v := 0) hx hb dXW_value_20 (by decide) ?_
      refine lv_goto (tgt := 29) hx hb dXW_value_21 (by decide) ?_
      exact W.iret hx hb hr (fun t ht hW => ⟨⟨_, _, rfl, h, by rw [fxC, ht]; exact hP⟩, hS.F ht⟩) hS.2.2 dXW_value_29 hlocks
    · replace h := h.2 c5
      refine lv_iload_n hx hb dXW_value_14 rfl (lv_at hl 3 rfl) ?_
      refine lv_bipush (v := 8) hx hb dXW_value_15 (by decide) ?_
      refine lv_icmp_lt (tgt := 24) hx hb dXW_value_17 (by decide) (fun c6 => ?_) (fun c6 => ?_)
      · replace h := h.1 c6
        refine lv_aload_n hx hb dXW_value_24 rfl (lv_at hl 0 rfl) ?_
        refine lv_iload_n hx hb dXW_value_25 rfl (lv_at hl 3 rfl) ?_
        obtain ⟨fs8, g9, h⟩ := h
        refine va_calli (va_runV (As := [.int a2]) (rest := []) ⟨hx, hb, hml, hown, hts⟩ (cKXRe_stateOf h) (gc_XW_148 hts hN ⟨Nat.le_of_ble_eq_true rfl, Nat.le_of_ble_eq_true rfl⟩) (k_preV g9 rfl hP hS hA hK hN hE) rfl rfl hl.1 rfl (lv_room (Nat.le_of_ble_eq_true rfl)) dXW_value_26 ⟨Nat.le_of_ble_eq_true rfl, Nat.le_of_ble_eq_true rfl⟩) hS (fun _ _ q => q) (fun _ q => q) (fun r7 w_7 t H locs ht hvm h hP hz hk hS => ?_)
        rw [fxC, ht] at hP
        exact W.iret hx hb hr (fun t ht hW => ⟨⟨_, _, rfl, h, by rw [fxC, ht]; exact hP⟩, hS.F ht⟩) hS.2.2 dXW_value_29 hlocks
      · replace h := h.2 c6
        refine lv_iconst (v := 0) hx hb dXW_value_20 (by decide) ?_
        refine lv_goto (tgt := 29) hx hb dXW_value_21 (by decide) ?_
        exact W.iret hx hb hr (fun t ht hW => ⟨⟨_, _, rfl, h, by rw [fxC, ht]; exact hP⟩, hS.F ht⟩) hS.2.2 dXW_value_29 hlocks
set_option maxRecDepth 100000 in
set_option maxHeartbeats 4000000 in
theorem cKXW_value {l : Launch} {D : va_G} {ca : Nat → Nat} {A : Nat → Prop} {post : Int32 → fh_T → Prop} {w : fh_T} {a0 : Nat} {a1 : Int32} {a2 : Int32} (h : wKXW_value post w a0 a1 a2) : Met l yXW_value (.code yXW_value cXW_value 4 (some .int) :: lg_tbl) ({ frames := 2, cells := 0, slots := 0, locals := 46 } : Room) (va_Pc [.ref a0, .int a1, .int a2] (kB D ca A w)) (va_Qi post (fxC (fh_ok D ca A)) A) 0 0 A := by
  refine fx_start (by decide +kernel) (Nat.le_of_ble_eq_true rfl) ?_
  intro p e s m below meth c ls hx hb hr hml hown hts hlocks hnm hB hl
  exact sKXW_value_in ⟨hx, hb, hr, hml, hown, hts, hlocks, hB.2.2.1, hB.2.2.2.1, hB.2.2.2.2, hB.2.1, hnm⟩ w a0 a1 a2 h _ _ ls hB.1 va_S.rf hl
def wKXW_all (post : Int32 → fh_T → Prop) (w : fh_T) (a0 : Nat) : Prop := (∃ x1, fh_g w a0 1 0 (.ref x1) ∧ (∃ x3, fh_g w x1 2 0 (.ref x3) ∧ (∃ x5, fh_g w x3 3 1 (.int x5) ∧ (post x5 w))))
set_option maxRecDepth 100000 in
set_option maxHeartbeats 4000000 in
theorem sKXW_all_in {p : Program} {l : Launch} {e : Env} {s : State} {m : MethodId} {args : Array Value} {below : List Frame} {meth : Method} {c : Code} {D : va_G} {ca : Nat → Nat} {A : Nat → Prop} {post : Int32 → fh_T → Prop} (C0 : kCx p s m args meth c D ca A RXW cXW_all 1 (some .int) "all") : ∀ (w : fh_T) (a0 : Nat), wKXW_all post w a0 → ∀ (H : Heap) (locs : List Loc) (ls : Array Slot), fh_ok D ca A w H → va_S A s.heap H locs → lv_has ls 1 [(0, .ref a0)] → W p l e ({ frames := 0, cells := 0, slots := 0, locals := 0 } : Room) s m args below meth c H locs 0 0 (MQ below (va_Qi post (fxC (fh_ok D ca A)) A) args s 0 0 A) (F0 m 0 ls []) := by
  obtain ⟨hx, hb, hr, hml, hown, hts, hlocks, hK, hN, hE, hA, hin⟩ := id C0
  intro w a0 h H locs ls hP hS hl
  replace h : (∃ x1, fh_g w a0 1 0 (.ref x1) ∧ (∃ x3, fh_g w x1 2 0 (.ref x3) ∧ (∃ x5, fh_g w x3 3 1 (.int x5) ∧ (post x5 w)))) := h
  refine lv_aload_n hx hb dXW_all_0 rfl (lv_at hl 0 rfl) ?_
  obtain ⟨x1, g2, h⟩ := h
  refine kg_XW_10 hx hb hown hts hN hK hP g2 dXW_all_1 ?_
  obtain ⟨x3, g4, h⟩ := h
  refine kg_XW_152 hx hb hown hts hN hK hP g4 dXW_all_4 ?_
  obtain ⟨x5, g6, h⟩ := h
  refine kg_XW_47 hx hb hown hts hN hK hP g6 dXW_all_7 ?_
  exact W.iret hx hb hr (fun t ht hW => ⟨⟨_, _, rfl, h, by rw [fxC, ht]; exact hP⟩, hS.F ht⟩) hS.2.2 dXW_all_10 hlocks
set_option maxRecDepth 100000 in
set_option maxHeartbeats 4000000 in
theorem cKXW_all {l : Launch} {D : va_G} {ca : Nat → Nat} {A : Nat → Prop} {post : Int32 → fh_T → Prop} {w : fh_T} {a0 : Nat} (h : wKXW_all post w a0) : Met l yXW_all (.code yXW_all cXW_all 1 (some .int) :: lg_tbl) ({ frames := 0, cells := 0, slots := 0, locals := 0 } : Room) (va_Pc [.ref a0] (kB D ca A w)) (va_Qi post (fxC (fh_ok D ca A)) A) 0 0 A := by
  refine fx_start (by decide +kernel) (Nat.le_of_ble_eq_true rfl) ?_
  intro p e s m below meth c ls hx hb hr hml hown hts hlocks hnm hB hl
  exact sKXW_all_in ⟨hx, hb, hr, hml, hown, hts, hlocks, hB.2.2.1, hB.2.2.2.1, hB.2.2.2.2, hB.2.1, hnm⟩ w a0 h _ _ ls hB.1 va_S.rf hl
