def wKXKn_add (post : fh_T → Prop) (w : fh_T) (a0 : Nat) (a1 : Nat) : Prop := (∃ x1, fh_g w a0 2 0 (.ref x1) ∧ (∃ x3, fh_g w a0 2 0 (.ref x3) ∧ (∃ x5, fh_g w x3 3 1 (.int x5) ∧ (∃ fs8, w x1 = some (.inr (3, fs8)) ∧ (wKXRo_insert (fun w_7 => (post w_7)) w x1 x5 a1)))))
set_option maxRecDepth 100000 in
set_option maxHeartbeats 4000000 in
theorem sKXKn_add_in {p : Program} {l : Launch} {e : Env} {s : State} {m : MethodId} {args : Array Value} {below : List Frame} {meth : Method} {c : Code} {D : va_G} {ca : Nat → Nat} {A : Nat → Prop} {post : fh_T → Prop} (C0 : kCx p s m args meth c D ca A RXKn cXKn_add 2 none "add") : ∀ (w : fh_T) (a0 : Nat) (a1 : Nat), wKXKn_add post w a0 a1 → ∀ (H : Heap) (locs : List Loc) (ls : Array Slot), fh_ok D ca A w H → va_S A s.heap H locs → lv_has ls 2 [(0, .ref a0), (1, .ref a1)] → W p l e ({ frames := 1, cells := 0, slots := 0, locals := 23 } : Room) s m args below meth c H locs 0 0 (MQ below (va_Qv post (fxC (fh_ok D ca A)) A) args s 0 0 A) (F0 m 0 ls []) := by
  obtain ⟨hx, hb, hr, hml, hown, hts, hlocks, hK, hN, hE, hA, hin⟩ := id C0
  intro w a0 a1 h H locs ls hP hS hl
  replace h : (∃ x1, fh_g w a0 2 0 (.ref x1) ∧ (∃ x3, fh_g w a0 2 0 (.ref x3) ∧ (∃ x5, fh_g w x3 3 1 (.int x5) ∧ (∃ fs8, w x1 = some (.inr (3, fs8)) ∧ (wKXRo_insert (fun w_7 => (post w_7)) w x1 x5 a1))))) := h
  refine lv_aload_n hx hb dXKn_add_0 rfl (lv_at hl 0 rfl) ?_
  obtain ⟨x1, g2, h⟩ := h
  refine kg_XKn_12 hx hb hown hts hN hK hP g2 dXKn_add_1 ?_
  refine lv_aload_n hx hb dXKn_add_4 rfl (lv_at hl 0 rfl) ?_
  obtain ⟨x3, g4, h⟩ := h
  refine kg_XKn_12 hx hb hown hts hN hK hP g4 dXKn_add_5 ?_
  obtain ⟨x5, g6, h⟩ := h
  refine kg_XKn_18 hx hb hown hts hN hK hP g6 dXKn_add_8 ?_
  refine lv_aload_n hx hb dXKn_add_11 rfl (lv_at hl 1 rfl) ?_
  obtain ⟨fs8, g9, h⟩ := h
  refine va_callv (va_runV (As := [.int x5, .ref a1]) (rest := []) ⟨hx, hb, hml, hown, hts⟩ (cKXRo_insert h) (gc_XKn_22 hts hN ⟨Nat.le_of_ble_eq_true rfl, Nat.le_of_ble_eq_true rfl⟩) (k_preV g9 rfl hP hS hA hK hN hE) rfl rfl hl.1 rfl (lv_room (Nat.le_of_ble_eq_true rfl)) dXKn_add_12 ⟨Nat.le_of_ble_eq_true rfl, Nat.le_of_ble_eq_true rfl⟩) hS (fun _ _ q => q) (fun _ q => q) (fun w_7 t H locs ht hvm h hP hz hk hS => ?_)
  rw [fxC, ht] at hP
  exact W.vret hx hb hr (fun t ht hW => ⟨⟨_, rfl, h, by rw [fxC, ht]; exact hP⟩, hS.F ht⟩) hS.2.2 dXKn_add_15 hlocks
set_option maxRecDepth 100000 in
set_option maxHeartbeats 4000000 in
theorem cKXKn_add {l : Launch} {D : va_G} {ca : Nat → Nat} {A : Nat → Prop} {post : fh_T → Prop} {w : fh_T} {a0 : Nat} {a1 : Nat} (h : wKXKn_add post w a0 a1) : Met l yXKn_add (.code yXKn_add cXKn_add 2 none :: lg_tbl) ({ frames := 1, cells := 0, slots := 0, locals := 23 } : Room) (va_Pc [.ref a0, .ref a1] (kB D ca A w)) (va_Qv post (fxC (fh_ok D ca A)) A) 0 0 A := by
  refine fx_start (by decide +kernel) (Nat.le_of_ble_eq_true rfl) ?_
  intro p e s m below meth c ls hx hb hr hml hown hts hlocks hnm hB hl
  exact sKXKn_add_in ⟨hx, hb, hr, hml, hown, hts, hlocks, hB.2.2.1, hB.2.2.2.1, hB.2.2.2.2, hB.2.1, hnm⟩ w a0 a1 h _ _ ls hB.1 va_S.rf hl
def wKXMe_standsBefore (post : Int32 → fh_T → Prop) (w : fh_T) (a0 : Nat) (a1 : Nat) : Prop := (∃ x1, fh_g w a0 7 2 (.int x1) ∧ (∃ x3, fh_g w a1 7 2 (.int x3) ∧ ((x1 = x3 → (∃ x6, fh_g w a0 7 0 (.ref x6) ∧ (∃ x8, fh_g w x6 5 5 (.long x8) ∧ (∃ x10, fh_g w a1 7 0 (.ref x10) ∧ (∃ x12, fh_g w x10 5 5 (.long x12) ∧ ((0 ≤ (lg_cmp x8 x12) → (post 0 w)) ∧ (¬ 0 ≤ (lg_cmp x8 x12) → (post 1 w)))))))) ∧ (¬ x1 = x3 → (∃ x15, fh_g w a0 7 2 (.int x15) ∧ (∃ x17, fh_g w a1 7 2 (.int x17) ∧ ((x17 ≤ x15 → (post 0 w)) ∧ (¬ x17 ≤ x15 → (post 1 w)))))))))
set_option maxRecDepth 100000 in
set_option maxHeartbeats 4000000 in
theorem sKXMe_standsBefore_in {p : Program} {l : Launch} {e : Env} {s : State} {m : MethodId} {args : Array Value} {below : List Frame} {meth : Method} {c : Code} {D : va_G} {ca : Nat → Nat} {A : Nat → Prop} {post : Int32 → fh_T → Prop} (C0 : kCx p s m args meth c D ca A RXMe cXMe_standsBefore 2 (some .boolean) "standsBefore") : ∀ (w : fh_T) (a0 : Nat) (a1 : Nat), wKXMe_standsBefore post w a0 a1 → ∀ (H : Heap) (locs : List Loc) (ls : Array Slot), fh_ok D ca A w H → va_S A s.heap H locs → lv_has ls 2 [(0, .ref a0), (1, .ref a1)] → W p l e ({ frames := 0, cells := 0, slots := 0, locals := 0 } : Room) s m args below meth c H locs 0 0 (MQ below (va_Qi post (fxC (fh_ok D ca A)) A) args s 0 0 A) (F0 m 0 ls []) := by
  obtain ⟨hx, hb, hr, hml, hown, hts, hlocks, hK, hN, hE, hA, hin⟩ := id C0
  intro w a0 a1 h H locs ls hP hS hl
  replace h : (∃ x1, fh_g w a0 7 2 (.int x1) ∧ (∃ x3, fh_g w a1 7 2 (.int x3) ∧ ((x1 = x3 → (∃ x6, fh_g w a0 7 0 (.ref x6) ∧ (∃ x8, fh_g w x6 5 5 (.long x8) ∧ (∃ x10, fh_g w a1 7 0 (.ref x10) ∧ (∃ x12, fh_g w x10 5 5 (.long x12) ∧ ((0 ≤ (lg_cmp x8 x12) → (post 0 w)) ∧ (¬ 0 ≤ (lg_cmp x8 x12) → (post 1 w)))))))) ∧ (¬ x1 = x3 → (∃ x15, fh_g w a0 7 2 (.int x15) ∧ (∃ x17, fh_g w a1 7 2 (.int x17) ∧ ((x17 ≤ x15 → (post 0 w)) ∧ (¬ x17 ≤ x15 → (post 1 w))))))))) := h
  refine lv_aload_n hx hb dXMe_standsBefore_0 rfl (lv_at hl 0 rfl) ?_
  obtain ⟨x1, g2, h⟩ := h
  refine kg_XMe_17 hx hb hown hts hN hK hP g2 dXMe_standsBefore_1 ?_
  refine lv_aload_n hx hb dXMe_standsBefore_4 rfl (lv_at hl 1 rfl) ?_
  obtain ⟨x3, g4, h⟩ := h
  refine kg_XMe_17 hx hb hown hts hN hK hP g4 dXMe_standsBefore_5 ?_
  refine lv_icmp_eq (tgt := 30) hx hb dXMe_standsBefore_8 (by decide) (fun c5 => ?_) (fun c5 => ?_)
  · replace h := h.1 c5
    refine lv_aload_n hx hb dXMe_standsBefore_30 rfl (lv_at hl 0 rfl) ?_
    obtain ⟨x6, g7, h⟩ := h
    refine kg_XMe_7 hx hb hown hts hN hK hP g7 dXMe_standsBefore_31 ?_
    obtain ⟨x8, g9, h⟩ := h
    refine kg_XMe_27 hx hb hown hts hN hK hP g9 dXMe_standsBefore_34 ?_
    refine lv_aload_n hx hb dXMe_standsBefore_37 rfl (lv_at hl 1 rfl) ?_
    obtain ⟨x10, g11, h⟩ := h
    refine kg_XMe_7 hx hb hown hts hN hK hP g11 dXMe_standsBefore_38 ?_
    obtain ⟨x12, g13, h⟩ := h
    refine kg_XMe_27 hx hb hown hts hN hK hP g13 dXMe_standsBefore_41 ?_
    refine W.lcmp hx hb dXMe_standsBefore_44 ?_
    refine lv_if_ge (tgt := 52) hx hb dXMe_standsBefore_45 (by decide) (fun c14 => ?_) (fun c14 => ?_)
    · replace h := h.1 c14
      refine lv_iconst (v := 0) hx hb dXMe_standsBefore_52 (by decide) ?_
      exact W.zret hx hb hr rfl (fun t ht hW => ⟨⟨_, _, rfl, h, by rw [fxC, ht]; exact hP⟩, hS.F ht⟩) hS.2.2 dXMe_standsBefore_53 hlocks
    · replace h := h.2 c14
      refine lv_iconst (v := 1) hx hb dXMe_standsBefore_48 (by decide) ?_
      refine lv_goto (tgt := 53) hx hb dXMe_standsBefore_49 (by decide) ?_
      exact W.zret hx hb hr rfl (fun t ht hW => ⟨⟨_, _, rfl, h, by rw [fxC, ht]; exact hP⟩, hS.F ht⟩) hS.2.2 dXMe_standsBefore_53 hlocks
  · replace h := h.2 c5
    refine lv_aload_n hx hb dXMe_standsBefore_11 rfl (lv_at hl 0 rfl) ?_
    obtain ⟨x15, g16, h⟩ := h
    refine kg_XMe_17 hx hb hown hts hN hK hP g16 dXMe_standsBefore_12 ?_
    refine lv_aload_n hx hb dXMe_standsBefore_15 rfl (lv_at hl 1 rfl) ?_
    obtain ⟨x17, g18, h⟩ := h
    refine kg_XMe_17 hx hb hown hts hN hK hP g18 dXMe_standsBefore_16 ?_
    refine lv_icmp_ge (tgt := 26) hx hb dXMe_standsBefore_19 (by decide) (fun c19 => ?_) (fun c19 => ?_)
    · replace h := h.1 c19
      refine lv_iconst (v := 0) hx hb dXMe_standsBefore_26 (by decide) ?_
      refine lv_goto (tgt := 53) hx hb dXMe_standsBefore_27 (by decide) ?_
      exact W.zret hx hb hr rfl (fun t ht hW => ⟨⟨_, _, rfl, h, by rw [fxC, ht]; exact hP⟩, hS.F ht⟩) hS.2.2 dXMe_standsBefore_53 hlocks
    · replace h := h.2 c19
      refine lv_iconst (v := 1) hx hb dXMe_standsBefore_22 (by decide) ?_
      refine lv_goto (tgt := 53) hx hb dXMe_standsBefore_23 (by decide) ?_
      exact W.zret hx hb hr rfl (fun t ht hW => ⟨⟨_, _, rfl, h, by rw [fxC, ht]; exact hP⟩, hS.F ht⟩) hS.2.2 dXMe_standsBefore_53 hlocks
set_option maxRecDepth 100000 in
set_option maxHeartbeats 4000000 in
theorem cKXMe_standsBefore {l : Launch} {D : va_G} {ca : Nat → Nat} {A : Nat → Prop} {post : Int32 → fh_T → Prop} {w : fh_T} {a0 : Nat} {a1 : Nat} (h : wKXMe_standsBefore post w a0 a1) : Met l yXMe_standsBefore (.code yXMe_standsBefore cXMe_standsBefore 2 (some .boolean) :: lg_tbl) ({ frames := 0, cells := 0, slots := 0, locals := 0 } : Room) (va_Pc [.ref a0, .ref a1] (kB D ca A w)) (va_Qi post (fxC (fh_ok D ca A)) A) 0 0 A := by
  refine fx_start (by decide +kernel) (Nat.le_of_ble_eq_true rfl) ?_
  intro p e s m below meth c ls hx hb hr hml hown hts hlocks hnm hB hl
  exact sKXMe_standsBefore_in ⟨hx, hb, hr, hml, hown, hts, hlocks, hB.2.2.1, hB.2.2.2.1, hB.2.2.2.2, hB.2.1, hnm⟩ w a0 a1 h _ _ ls hB.1 va_S.rf hl
noncomputable def wKXRe_placeInOrder_2 (post : Int32 → fh_T → Prop) (n : Nat) : fh_T → Nat → Nat → Int32 → Prop := Nat.rec (motive := fun _ => fh_T → Nat → Nat → Int32 → Prop) (fun _ _ _ _ => False) (fun _ K2 w v0 v1 v2 => (∃ x1, fh_g w v0 4 1 (.ref x1) ∧ (∃ x3, fh_g w x1 3 1 (.int x3) ∧ ((x3 ≤ v2 → (post v2 w)) ∧ (¬ x3 ≤ v2 → (∃ x6, fh_g w v0 4 1 (.ref x6) ∧ (∃ x8, fh_g w x6 3 0 (.ref x8) ∧ (∃ n10 f11 y12, w x8 = some (.inl (0, n10, .inr (.inr (.inr (.inr f11))))) ∧ vp_in v2 n10 ∧ f11 (Int32.toNatClampNeg v2) = some y12 ∧ (∃ fs17, w y12 = some (.inr (7, fs17)) ∧ (wKXMe_standsBefore (fun r16 w_16 => ((r16 = 0 → (post v2 w_16)) ∧ (¬ r16 = 0 → (K2 w_16 v0 v1 (v2 + 1))))) w y12 v1)))))))))) n
def wKXRe_placeInOrder (post : Int32 → fh_T → Prop) (w : fh_T) (a0 : Nat) (a1 : Nat) : Prop := (∃ k, wKXRe_placeInOrder_2 post  k w a0 a1 0)
set_option maxRecDepth 100000 in
set_option maxHeartbeats 4000000 in
theorem sKXRe_placeInOrder_2 {p : Program} {l : Launch} {e : Env} {s : State} {m : MethodId} {args : Array Value} {below : List Frame} {meth : Method} {c : Code} {D : va_G} {ca : Nat → Nat} {A : Nat → Prop} {post : Int32 → fh_T → Prop} (C0 : kCx p s m args meth c D ca A RXRe cXRe_placeInOrder 3 (some .int) "placeInOrder") : ∀ (n : Nat) (w : fh_T) (v0 : Nat) (v1 : Nat) (v2 : Int32), wKXRe_placeInOrder_2 post  n w v0 v1 v2 → ∀ (H : Heap) (locs : List Loc) (ls : Array Slot), fh_ok D ca A w H → va_S A s.heap H locs → lv_has ls 3 [(0, .ref v0), (1, .ref v1), (2, .int v2)] → W p l e ({ frames := 1, cells := 0, slots := 0, locals := 21 } : Room) s m args below meth c H locs 0 0 (MQ below (va_Qi post (fxC (fh_ok D ca A)) A) args s 0 0 A) (F0 m 2 ls []) := by
  obtain ⟨hx, hb, hr, hml, hown, hts, hlocks, hK, hN, hE, hA, hin⟩ := id C0
  intro n
  induction n with
  | zero => exact fun _ _ _ _ h => h.elim
  | succ n hK2 =>
    intro w v0 v1 v2 h H locs ls hP hS hl
    replace h : (∃ x1, fh_g w v0 4 1 (.ref x1) ∧ (∃ x3, fh_g w x1 3 1 (.int x3) ∧ ((x3 ≤ v2 → (post v2 w)) ∧ (¬ x3 ≤ v2 → (∃ x6, fh_g w v0 4 1 (.ref x6) ∧ (∃ x8, fh_g w x6 3 0 (.ref x8) ∧ (∃ n10 f11 y12, w x8 = some (.inl (0, n10, .inr (.inr (.inr (.inr f11))))) ∧ vp_in v2 n10 ∧ f11 (Int32.toNatClampNeg v2) = some y12 ∧ (∃ fs17, w y12 = some (.inr (7, fs17)) ∧ (wKXMe_standsBefore (fun r16 w_16 => ((r16 = 0 → (post v2 w_16)) ∧ (¬ r16 = 0 → ((wKXRe_placeInOrder_2 post  n) w_16 v0 v1 (v2 + 1))))) w y12 v1))))))))) := h
    refine lv_iload_n hx hb dXRe_placeInOrder_2 rfl (lv_at hl 2 rfl) ?_
    refine lv_aload_n hx hb dXRe_placeInOrder_3 rfl (lv_at hl 0 rfl) ?_
    obtain ⟨x1, g2, h⟩ := h
    refine kg_XRe_12 hx hb hown hts hN hK hP g2 dXRe_placeInOrder_4 ?_
    obtain ⟨x3, g4, h⟩ := h
    refine kg_XRe_137 hx hb hown hts hN hK hP g4 dXRe_placeInOrder_7 ?_
    refine lv_icmp_ge (tgt := 35) hx hb dXRe_placeInOrder_10 (by decide) (fun c5 => ?_) (fun c5 => ?_)
    · replace h := h.1 c5
      refine lv_iload_n hx hb dXRe_placeInOrder_35 rfl (lv_at hl 2 rfl) ?_
      exact W.iret hx hb hr (fun t ht hW => ⟨⟨_, _, rfl, h, by rw [fxC, ht]; exact hP⟩, hS.F ht⟩) hS.2.2 dXRe_placeInOrder_36 hlocks
    · replace h := h.2 c5
      refine lv_aload_n hx hb dXRe_placeInOrder_13 rfl (lv_at hl 0 rfl) ?_
      obtain ⟨x6, g7, h⟩ := h
      refine kg_XRe_12 hx hb hown hts hN hK hP g7 dXRe_placeInOrder_14 ?_
      obtain ⟨x8, g9, h⟩ := h
      refine kg_XRe_139 hx hb hown hts hN hK hP g9 dXRe_placeInOrder_17 ?_
      refine lv_iload_n hx hb dXRe_placeInOrder_20 rfl (lv_at hl 2 rfl) ?_
      obtain ⟨n10, f11, y12, g13, g14, g15, h⟩ := h
      refine kaa 0 rfl rfl hx hb hK hP g13 g14 g15 dXRe_placeInOrder_21 ?_
      refine lv_aload_n hx hb dXRe_placeInOrder_22 rfl (lv_at hl 1 rfl) ?_
      obtain ⟨fs17, g18, h⟩ := h
      refine va_calli (va_runV (As := [.ref v1]) (rest := []) ⟨hx, hb, hml, hown, hts⟩ (cKXMe_standsBefore h) (gc_XRe_143 hts hN ⟨Nat.le_of_ble_eq_true rfl, Nat.le_of_ble_eq_true rfl⟩) (k_preV g18 rfl hP hS hA hK hN hE) rfl rfl hl.1 rfl (lv_room (Nat.le_of_ble_eq_true rfl)) dXRe_placeInOrder_23 ⟨Nat.le_of_ble_eq_true rfl, Nat.le_of_ble_eq_true rfl⟩) hS (fun _ _ q => q) (fun _ q => q) (fun r16 w_16 t H locs ht hvm h hP hz hk hS => ?_)
      rw [fxC, ht] at hP
      refine lv_if_eq (tgt := 35) hx hb dXRe_placeInOrder_26 (by decide) (fun c19 => ?_) (fun c19 => ?_)
      · replace h := h.1 c19
        refine lv_iload_n hx hb dXRe_placeInOrder_35 rfl (lv_at hl 2 rfl) ?_
        exact W.iret hx hb hr (fun t ht hW => ⟨⟨_, _, rfl, h, by rw [fxC, ht]; exact hP⟩, hS.F ht⟩) hS.2.2 dXRe_placeInOrder_36 hlocks
      · replace h := h.2 c19
        refine lv_iinc (v := v2 + 1) (lv' := [(2, .int (v2 + 1)), (0, .ref v0), (1, .ref v1)]) hx hb dXRe_placeInOrder_29 hl (k := 2) rfl rfl (by decide) rfl (fun ls hl => ?_)
        refine lv_goto (tgt := 2) hx hb dXRe_placeInOrder_32 (by decide) ?_
        exact hK2 w_16 v0 v1 (v2 + 1) h H locs ls hP hS (lv_sub hl [1, 2, 0] rfl)
set_option maxRecDepth 100000 in
set_option maxHeartbeats 4000000 in
theorem sKXRe_placeInOrder_in {p : Program} {l : Launch} {e : Env} {s : State} {m : MethodId} {args : Array Value} {below : List Frame} {meth : Method} {c : Code} {D : va_G} {ca : Nat → Nat} {A : Nat → Prop} {post : Int32 → fh_T → Prop} (C0 : kCx p s m args meth c D ca A RXRe cXRe_placeInOrder 3 (some .int) "placeInOrder") : ∀ (w : fh_T) (a0 : Nat) (a1 : Nat), wKXRe_placeInOrder post w a0 a1 → ∀ (H : Heap) (locs : List Loc) (ls : Array Slot), fh_ok D ca A w H → va_S A s.heap H locs → lv_has ls 3 [(0, .ref a0), (1, .ref a1)] → W p l e ({ frames := 1, cells := 0, slots := 0, locals := 21 } : Room) s m args below meth c H locs 0 0 (MQ below (va_Qi post (fxC (fh_ok D ca A)) A) args s 0 0 A) (F0 m 0 ls []) := by
  obtain ⟨hx, hb, hr, hml, hown, hts, hlocks, hK, hN, hE, hA, hin⟩ := id C0
  intro w a0 a1 h H locs ls hP hS hl
  replace h : (∃ k, wKXRe_placeInOrder_2 post  k w a0 a1 0) := h
  refine lv_iconst (v := 0) hx hb dXRe_placeInOrder_0 (by decide) ?_
  refine lv_istore_n (lv' := [(2, .int 0), (0, .ref a0), (1, .ref a1)]) hx hb dXRe_placeInOrder_1 rfl hl (by decide) rfl (fun ls hl => ?_)
  obtain ⟨k, h⟩ := h
  exact sKXRe_placeInOrder_2  C0  k w a0 a1 0 h H locs ls hP hS (lv_sub hl [1, 2, 0] rfl)
set_option maxRecDepth 100000 in
set_option maxHeartbeats 4000000 in
theorem cKXRe_placeInOrder {l : Launch} {D : va_G} {ca : Nat → Nat} {A : Nat → Prop} {post : Int32 → fh_T → Prop} {w : fh_T} {a0 : Nat} {a1 : Nat} (h : wKXRe_placeInOrder post w a0 a1) : Met l yXRe_placeInOrder (.code yXRe_placeInOrder cXRe_placeInOrder 3 (some .int) :: lg_tbl) ({ frames := 1, cells := 0, slots := 0, locals := 21 } : Room) (va_Pc [.ref a0, .ref a1] (kB D ca A w)) (va_Qi post (fxC (fh_ok D ca A)) A) 0 0 A := by
  refine fx_start (by decide +kernel) (Nat.le_of_ble_eq_true rfl) ?_
  intro p e s m below meth c ls hx hb hr hml hown hts hlocks hnm hB hl
  exact sKXRe_placeInOrder_in ⟨hx, hb, hr, hml, hown, hts, hlocks, hB.2.2.1, hB.2.2.2.1, hB.2.2.2.2, hB.2.1, hnm⟩ w a0 a1 h _ _ ls hB.1 va_S.rf hl
noncomputable def wKXRo_removeAll_5 (post : fh_T → Prop) (n : Nat) : fh_T → Nat → Int64 → Int32 → Int32 → Prop := Nat.rec (motive := fun _ => fh_T → Nat → Int64 → Int32 → Int32 → Prop) (fun _ _ _ _ _ => False) (fun _ K5 w v0 v1 v3 v4 => (∃ x1, fh_g w v0 3 1 (.int x1) ∧ ((x1 ≤ v4 → (∃ fs4, w v0 = some (.inr (3, fs4)) ∧ 1 < fs4.length ∧ ∀ w5, w5 = fh_up w v0 (.inr (3, fs4.set 1 (.int v3))) → (post w5))) ∧ (¬ x1 ≤ v4 → (∃ x8, fh_g w v0 3 0 (.ref x8) ∧ (∃ n10 f11 y12, w x8 = some (.inl (0, n10, .inr (.inr (.inr (.inr f11))))) ∧ vp_in v4 n10 ∧ f11 (Int32.toNatClampNeg v4) = some y12 ∧ (∃ x16, fh_g w y12 7 1 (.int x16) ∧ (wKXW_contains (fun r18 w_18 => ((¬ r18 = 0 → (K5 w_18 v0 v1 v3 (v4 + 1))) ∧ (r18 = 0 → (∃ x20, fh_g w_18 v0 3 0 (.ref x20) ∧ (∃ x22, fh_g w_18 v0 3 0 (.ref x22) ∧ (∃ n24 f25 y26, w_18 x22 = some (.inl (0, n24, .inr (.inr (.inr (.inr f25))))) ∧ vp_in v4 n24 ∧ f25 (Int32.toNatClampNeg v4) = some y26 ∧ (∃ n30 f31 fs35, w_18 x20 = some (.inl (0, n30, .inr (.inr (.inr (.inr f31))))) ∧ w_18 y26 = some (.inr (7, fs35)) ∧ vp_in v3 n30 ∧ ∀ w34, w34 = fh_up w_18 x20 (.inl (0, n30, .inr (.inr (.inr (.inr (va_up f31 (Int32.toNatClampNeg v3) (some y26))))))) → (K5 w34 v0 v1 (v3 + 1) (v4 + 1))))))))) w v1 x16)))))))) n
def wKXRo_removeAll (post : fh_T → Prop) (w : fh_T) (a0 : Nat) (a1 : Int64) : Prop := (∃ k, wKXRo_removeAll_5 post  k w a0 a1 0 0)
set_option maxRecDepth 100000 in
set_option maxHeartbeats 4000000 in
theorem sKXRo_removeAll_5 {p : Program} {l : Launch} {e : Env} {s : State} {m : MethodId} {args : Array Value} {below : List Frame} {meth : Method} {c : Code} {D : va_G} {ca : Nat → Nat} {A : Nat → Prop} {post : fh_T → Prop} (C0 : kCx p s m args meth c D ca A RXRo cXRo_removeAll 5 none "removeAll") : ∀ (n : Nat) (w : fh_T) (v0 : Nat) (v1 : Int64) (v3 : Int32) (v4 : Int32), wKXRo_removeAll_5 post  n w v0 v1 v3 v4 → ∀ (H : Heap) (locs : List Loc) (ls : Array Slot), fh_ok D ca A w H → va_S A s.heap H locs → lv_has ls 5 [(0, .ref v0), (1, .long v1), (3, .int v3), (4, .int v4)] → W p l e ({ frames := 1, cells := 0, slots := 0, locals := 22 } : Room) s m args below meth c H locs 0 0 (MQ below (va_Qv post (fxC (fh_ok D ca A)) A) args s 0 0 A) (F0 m 5 ls []) := by
  obtain ⟨hx, hb, hr, hml, hown, hts, hlocks, hK, hN, hE, hA, hin⟩ := id C0
  intro n
  induction n with
  | zero => exact fun _ _ _ _ _ h => h.elim
  | succ n hK5 =>
    intro w v0 v1 v3 v4 h H locs ls hP hS hl
    replace h : (∃ x1, fh_g w v0 3 1 (.int x1) ∧ ((x1 ≤ v4 → (∃ fs4, w v0 = some (.inr (3, fs4)) ∧ 1 < fs4.length ∧ ∀ w5, w5 = fh_up w v0 (.inr (3, fs4.set 1 (.int v3))) → (post w5))) ∧ (¬ x1 ≤ v4 → (∃ x8, fh_g w v0 3 0 (.ref x8) ∧ (∃ n10 f11 y12, w x8 = some (.inl (0, n10, .inr (.inr (.inr (.inr f11))))) ∧ vp_in v4 n10 ∧ f11 (Int32.toNatClampNeg v4) = some y12 ∧ (∃ x16, fh_g w y12 7 1 (.int x16) ∧ (wKXW_contains (fun r18 w_18 => ((¬ r18 = 0 → ((wKXRo_removeAll_5 post  n) w_18 v0 v1 v3 (v4 + 1))) ∧ (r18 = 0 → (∃ x20, fh_g w_18 v0 3 0 (.ref x20) ∧ (∃ x22, fh_g w_18 v0 3 0 (.ref x22) ∧ (∃ n24 f25 y26, w_18 x22 = some (.inl (0, n24, .inr (.inr (.inr (.inr f25))))) ∧ vp_in v4 n24 ∧ f25 (Int32.toNatClampNeg v4) = some y26 ∧ (∃ n30 f31 fs35, w_18 x20 = some (.inl (0, n30, .inr (.inr (.inr (.inr f31))))) ∧ w_18 y26 = some (.inr (7, fs35)) ∧ vp_in v3 n30 ∧ ∀ w34, w34 = fh_up w_18 x20 (.inl (0, n30, .inr (.inr (.inr (.inr (va_up f31 (Int32.toNatClampNeg v3) (some y26))))))) → ((wKXRo_removeAll_5 post  n) w34 v0 v1 (v3 + 1) (v4 + 1))))))))) w v1 x16))))))) := h
    refine lv_iload hx hb dXRo_removeAll_5 (lv_at hl 3 rfl) ?_
    refine lv_aload_n hx hb dXRo_removeAll_7 rfl (lv_at hl 0 rfl) ?_
    obtain ⟨x1, g2, h⟩ := h
    refine kg_XRo_17 hx hb hown hts hN hK hP g2 dXRo_removeAll_8 ?_
    refine lv_icmp_ge (tgt := 53) hx hb dXRo_removeAll_11 (by decide) (fun c3 => ?_) (fun c3 => ?_)
    · replace h := h.1 c3
      refine lv_aload_n hx hb dXRo_removeAll_53 rfl (lv_at hl 0 rfl) ?_
      refine lv_iload_n hx hb dXRo_removeAll_54 rfl (lv_at hl 2 rfl) ?_
      obtain ⟨fs4, g6, g7, h⟩ := h
      obtain ⟨w5, ew5⟩ : ∃ y, y = fh_up w v0 (.inr (3, fs4.set 1 (.int v3))) := ⟨_, rfl⟩
      replace h := h w5 ew5
      refine kp_XRo_17 hx hb hown hts hN hK hP hS g6 g7 dXRo_removeAll_55 (fun H locs hP hS => ?_)
      rw [← ew5] at hP
      exact W.vret hx hb hr (fun t ht hW => ⟨⟨_, rfl, h, by rw [fxC, ht]; exact hP⟩, hS.F ht⟩) hS.2.2 dXRo_removeAll_58 hlocks
    · replace h := h.2 c3
      refine lv_lload_n hx hb dXRo_removeAll_14 rfl (lv_at hl 1 rfl) ?_
      refine lv_aload_n hx hb dXRo_removeAll_15 rfl (lv_at hl 0 rfl) ?_
      obtain ⟨x8, g9, h⟩ := h
      refine kg_XRo_11 hx hb hown hts hN hK hP g9 dXRo_removeAll_16 ?_
      refine lv_iload hx hb dXRo_removeAll_19 (lv_at hl 3 rfl) ?_
      obtain ⟨n10, f11, y12, g13, g14, g15, h⟩ := h
      refine kaa 0 rfl rfl hx hb hK hP g13 g14 g15 dXRo_removeAll_21 ?_
      obtain ⟨x16, g17, h⟩ := h
      refine kg_XRo_21 hx hb hown hts hN hK hP g17 dXRo_removeAll_22 ?_
      refine va_calli (va_runSN (As := [.long v1, .int x16]) (rest := []) ⟨hx, hb, hml, hown, hts⟩ (cKXW_contains h) (gc_XRo_24 hts hN ⟨Nat.le_of_ble_eq_true rfl, Nat.le_of_ble_eq_true rfl⟩) (k_preS hP hS hA hK hN hE) rfl rfl hl.1 rfl (lv_room (Nat.le_of_ble_eq_true rfl)) dXRo_removeAll_25 ⟨Nat.le_of_ble_eq_true rfl, Nat.le_of_ble_eq_true rfl⟩) hS (fun _ _ q => q) (fun _ q => q) (fun r18 w_18 t H locs ht hvm h hP hz hk hS => ?_)
      rw [fxC, ht] at hP
      refine lv_if_ne (tgt := 47) hx hb dXRo_removeAll_28 (by decide) (fun c19 => ?_) (fun c19 => ?_)
      · replace h := h.1 c19
        refine lv_iinc (v := v4 + 1) (lv' := [(4, .int (v4 + 1)), (0, .ref v0), (1, .long v1), (3, .int v3)]) hx hb dXRo_removeAll_47 hl (k := 3) rfl rfl (by decide) rfl (fun ls hl => ?_)
        refine lv_goto (tgt := 5) hx hb dXRo_removeAll_50 (by decide) ?_
        exact hK5 w_18 v0 v1 v3 (v4 + 1) h H locs ls hP hS (lv_sub hl [1, 2, 3, 0] rfl)
      · replace h := h.2 c19
        refine lv_aload_n hx hb dXRo_removeAll_31 rfl (lv_at hl 0 rfl) ?_
        obtain ⟨x20, g21, h⟩ := h
        refine kg_XRo_11 hx hb hown hts hN hK hP g21 dXRo_removeAll_32 ?_
        refine lv_iload_n hx hb dXRo_removeAll_35 rfl (lv_at hl 2 rfl) ?_
        refine lv_aload_n hx hb dXRo_removeAll_36 rfl (lv_at hl 0 rfl) ?_
        obtain ⟨x22, g23, h⟩ := h
        refine kg_XRo_11 hx hb hown hts hN hK hP g23 dXRo_removeAll_37 ?_
        refine lv_iload hx hb dXRo_removeAll_40 (lv_at hl 3 rfl) ?_
        obtain ⟨n24, f25, y26, g27, g28, g29, h⟩ := h
        refine kaa 0 rfl rfl hx hb hK hP g27 g28 g29 dXRo_removeAll_42 ?_
        obtain ⟨n30, f31, fs35, g32, g36, g33, h⟩ := h
        obtain ⟨w34, ew34⟩ : ∃ y, y = fh_up w_18 x20 (.inl (0, n30, .inr (.inr (.inr (.inr (va_up f31 (Int32.toNatClampNeg v3) (some y26))))))) := ⟨_, rfl⟩
        replace h := h w34 ew34
        refine kas 0 (ci := 7) rfl rfl rfl hx hb hK hP hS g32 g36 g33 dXRo_removeAll_43 (fun H locs hP hS => ?_)
        rw [← ew34] at hP
        refine lv_iinc (v := v3 + 1) (lv' := [(3, .int (v3 + 1)), (0, .ref v0), (1, .long v1), (4, .int v4)]) hx hb dXRo_removeAll_44 hl (k := 2) rfl rfl (by decide) rfl (fun ls hl => ?_)
        refine lv_iinc (v := v4 + 1) (lv' := [(4, .int (v4 + 1)), (3, .int (v3 + 1)), (0, .ref v0), (1, .long v1)]) hx hb dXRo_removeAll_47 hl (k := 3) rfl rfl (by decide) rfl (fun ls hl => ?_)
        refine lv_goto (tgt := 5) hx hb dXRo_removeAll_50 (by decide) ?_
        exact hK5 w34 v0 v1 (v3 + 1) (v4 + 1) h H locs ls hP hS (lv_sub hl [2, 3, 1, 0] rfl)
set_option maxRecDepth 100000 in
set_option maxHeartbeats 4000000 in
theorem sKXRo_removeAll_in {p : Program} {l : Launch} {e : Env} {s : State} {m : MethodId} {args : Array Value} {below : List Frame} {meth : Method} {c : Code} {D : va_G} {ca : Nat → Nat} {A : Nat → Prop} {post : fh_T → Prop} (C0 : kCx p s m args meth c D ca A RXRo cXRo_removeAll 5 none "removeAll") : ∀ (w : fh_T) (a0 : Nat) (a1 : Int64), wKXRo_removeAll post w a0 a1 → ∀ (H : Heap) (locs : List Loc) (ls : Array Slot), fh_ok D ca A w H → va_S A s.heap H locs → lv_has ls 5 [(0, .ref a0), (1, .long a1)] → W p l e ({ frames := 1, cells := 0, slots := 0, locals := 22 } : Room) s m args below meth c H locs 0 0 (MQ below (va_Qv post (fxC (fh_ok D ca A)) A) args s 0 0 A) (F0 m 0 ls []) := by
  obtain ⟨hx, hb, hr, hml, hown, hts, hlocks, hK, hN, hE, hA, hin⟩ := id C0
  intro w a0 a1 h H locs ls hP hS hl
  replace h : (∃ k, wKXRo_removeAll_5 post  k w a0 a1 0 0) := h
  refine lv_iconst (v := 0) hx hb dXRo_removeAll_0 (by decide) ?_
  refine lv_istore_n (lv' := [(3, .int 0), (0, .ref a0), (1, .long a1)]) hx hb dXRo_removeAll_1 rfl hl (by decide) rfl (fun ls hl => ?_)
  refine lv_iconst (v := 0) hx hb dXRo_removeAll_2 (by decide) ?_
  refine lv_istore (lv' := [(4, .int 0), (3, .int 0), (0, .ref a0), (1, .long a1)]) hx hb dXRo_removeAll_3 hl (by decide) rfl (fun ls hl => ?_)
  obtain ⟨k, h⟩ := h
  exact sKXRo_removeAll_5  C0  k w a0 a1 0 0 h H locs ls hP hS (lv_sub hl [2, 3, 1, 0] rfl)
set_option maxRecDepth 100000 in
set_option maxHeartbeats 4000000 in
theorem cKXRo_removeAll {l : Launch} {D : va_G} {ca : Nat → Nat} {A : Nat → Prop} {post : fh_T → Prop} {w : fh_T} {a0 : Nat} {a1 : Int64} (h : wKXRo_removeAll post w a0 a1) : Met l yXRo_removeAll (.code yXRo_removeAll cXRo_removeAll 5 none :: lg_tbl) ({ frames := 1, cells := 0, slots := 0, locals := 22 } : Room) (va_Pc [.ref a0, .long a1] (kB D ca A w)) (va_Qv post (fxC (fh_ok D ca A)) A) 0 0 A := by
  refine fx_start (by decide +kernel) (Nat.le_of_ble_eq_true rfl) ?_
  intro p e s m below meth c ls hx hb hr hml hown hts hlocks hnm hB hl
  exact sKXRo_removeAll_in ⟨hx, hb, hr, hml, hown, hts, hlocks, hB.2.2.1, hB.2.2.2.1, hB.2.2.2.2, hB.2.1, hnm⟩ w a0 a1 h _ _ ls hB.1 va_S.rf hl
noncomputable def wKXRe_placeInHeads_2 (post : Int32 → fh_T → Prop) (n : Nat) : fh_T → Nat → Nat → Int32 → Prop := Nat.rec (motive := fun _ => fh_T → Nat → Nat → Int32 → Prop) (fun _ _ _ _ => False) (fun _ K2 w v0 v1 v2 => (∃ x1, fh_g w v0 4 2 (.ref x1) ∧ (∃ x3, fh_g w x1 3 1 (.int x3) ∧ ((x3 ≤ v2 → (post v2 w)) ∧ (¬ x3 ≤ v2 → (∃ x6, fh_g w v0 4 2 (.ref x6) ∧ (∃ x8, fh_g w x6 3 0 (.ref x8) ∧ (∃ n10 f11 y12, w x8 = some (.inl (0, n10, .inr (.inr (.inr (.inr f11))))) ∧ vp_in v2 n10 ∧ f11 (Int32.toNatClampNeg v2) = some y12 ∧ (∃ x16, fh_g w y12 7 0 (.ref x16) ∧ (∃ x18, fh_g w x16 5 5 (.long x18) ∧ (∃ x20, fh_g w v1 7 0 (.ref x20) ∧ (∃ x22, fh_g w x20 5 5 (.long x22) ∧ ((0 ≤ (lg_cmp x18 x22) → (post v2 w)) ∧ (¬ 0 ≤ (lg_cmp x18 x22) → (K2 w v0 v1 (v2 + 1)))))))))))))))) n
def wKXRe_placeInHeads (post : Int32 → fh_T → Prop) (w : fh_T) (a0 : Nat) (a1 : Nat) : Prop := (∃ k, wKXRe_placeInHeads_2 post  k w a0 a1 0)
set_option maxRecDepth 100000 in
set_option maxHeartbeats 4000000 in
theorem sKXRe_placeInHeads_2 {p : Program} {l : Launch} {e : Env} {s : State} {m : MethodId} {args : Array Value} {below : List Frame} {meth : Method} {c : Code} {D : va_G} {ca : Nat → Nat} {A : Nat → Prop} {post : Int32 → fh_T → Prop} (C0 : kCx p s m args meth c D ca A RXRe cXRe_placeInHeads 3 (some .int) "placeInHeads") : ∀ (n : Nat) (w : fh_T) (v0 : Nat) (v1 : Nat) (v2 : Int32), wKXRe_placeInHeads_2 post  n w v0 v1 v2 → ∀ (H : Heap) (locs : List Loc) (ls : Array Slot), fh_ok D ca A w H → va_S A s.heap H locs → lv_has ls 3 [(0, .ref v0), (1, .ref v1), (2, .int v2)] → W p l e ({ frames := 0, cells := 0, slots := 0, locals := 0 } : Room) s m args below meth c H locs 0 0 (MQ below (va_Qi post (fxC (fh_ok D ca A)) A) args s 0 0 A) (F0 m 2 ls []) := by
  obtain ⟨hx, hb, hr, hml, hown, hts, hlocks, hK, hN, hE, hA, hin⟩ := id C0
  intro n
  induction n with
  | zero => exact fun _ _ _ _ h => h.elim
  | succ n hK2 =>
    intro w v0 v1 v2 h H locs ls hP hS hl
    replace h : (∃ x1, fh_g w v0 4 2 (.ref x1) ∧ (∃ x3, fh_g w x1 3 1 (.int x3) ∧ ((x3 ≤ v2 → (post v2 w)) ∧ (¬ x3 ≤ v2 → (∃ x6, fh_g w v0 4 2 (.ref x6) ∧ (∃ x8, fh_g w x6 3 0 (.ref x8) ∧ (∃ n10 f11 y12, w x8 = some (.inl (0, n10, .inr (.inr (.inr (.inr f11))))) ∧ vp_in v2 n10 ∧ f11 (Int32.toNatClampNeg v2) = some y12 ∧ (∃ x16, fh_g w y12 7 0 (.ref x16) ∧ (∃ x18, fh_g w x16 5 5 (.long x18) ∧ (∃ x20, fh_g w v1 7 0 (.ref x20) ∧ (∃ x22, fh_g w x20 5 5 (.long x22) ∧ ((0 ≤ (lg_cmp x18 x22) → (post v2 w)) ∧ (¬ 0 ≤ (lg_cmp x18 x22) → ((wKXRe_placeInHeads_2 post  n) w v0 v1 (v2 + 1))))))))))))))) := h
    refine lv_iload_n hx hb dXRe_placeInHeads_2 rfl (lv_at hl 2 rfl) ?_
    refine lv_aload_n hx hb dXRe_placeInHeads_3 rfl (lv_at hl 0 rfl) ?_
    obtain ⟨x1, g2, h⟩ := h
    refine kg_XRe_18 hx hb hown hts hN hK hP g2 dXRe_placeInHeads_4 ?_
    obtain ⟨x3, g4, h⟩ := h
    refine kg_XRe_137 hx hb hown hts hN hK hP g4 dXRe_placeInHeads_7 ?_
    refine lv_icmp_ge (tgt := 45) hx hb dXRe_placeInHeads_10 (by decide) (fun c5 => ?_) (fun c5 => ?_)
    · replace h := h.1 c5
      refine lv_iload_n hx hb dXRe_placeInHeads_45 rfl (lv_at hl 2 rfl) ?_
      exact W.iret hx hb hr (fun t ht hW => ⟨⟨_, _, rfl, h, by rw [fxC, ht]; exact hP⟩, hS.F ht⟩) hS.2.2 dXRe_placeInHeads_46 hlocks
    · replace h := h.2 c5
      refine lv_aload_n hx hb dXRe_placeInHeads_13 rfl (lv_at hl 0 rfl) ?_
      obtain ⟨x6, g7, h⟩ := h
      refine kg_XRe_18 hx hb hown hts hN hK hP g7 dXRe_placeInHeads_14 ?_
      obtain ⟨x8, g9, h⟩ := h
      refine kg_XRe_139 hx hb hown hts hN hK hP g9 dXRe_placeInHeads_17 ?_
      refine lv_iload_n hx hb dXRe_placeInHeads_20 rfl (lv_at hl 2 rfl) ?_
      obtain ⟨n10, f11, y12, g13, g14, g15, h⟩ := h
      refine kaa 0 rfl rfl hx hb hK hP g13 g14 g15 dXRe_placeInHeads_21 ?_
      obtain ⟨x16, g17, h⟩ := h
      refine kg_XRe_77 hx hb hown hts hN hK hP g17 dXRe_placeInHeads_22 ?_
      obtain ⟨x18, g19, h⟩ := h
      refine kg_XRe_74 hx hb hown hts hN hK hP g19 dXRe_placeInHeads_25 ?_
      refine lv_aload_n hx hb dXRe_placeInHeads_28 rfl (lv_at hl 1 rfl) ?_
      obtain ⟨x20, g21, h⟩ := h
      refine kg_XRe_77 hx hb hown hts hN hK hP g21 dXRe_placeInHeads_29 ?_
      obtain ⟨x22, g23, h⟩ := h
      refine kg_XRe_74 hx hb hown hts hN hK hP g23 dXRe_placeInHeads_32 ?_
      refine W.lcmp hx hb dXRe_placeInHeads_35 ?_
      refine lv_if_ge (tgt := 45) hx hb dXRe_placeInHeads_36 (by decide) (fun c24 => ?_) (fun c24 => ?_)
      · replace h := h.1 c24
        refine lv_iload_n hx hb dXRe_placeInHeads_45 rfl (lv_at hl 2 rfl) ?_
        exact W.iret hx hb hr (fun t ht hW => ⟨⟨_, _, rfl, h, by rw [fxC, ht]; exact hP⟩, hS.F ht⟩) hS.2.2 dXRe_placeInHeads_46 hlocks
      · replace h := h.2 c24
        refine lv_iinc (v := v2 + 1) (lv' := [(2, .int (v2 + 1)), (0, .ref v0), (1, .ref v1)]) hx hb dXRe_placeInHeads_39 hl (k := 2) rfl rfl (by decide) rfl (fun ls hl => ?_)
        refine lv_goto (tgt := 2) hx hb dXRe_placeInHeads_42 (by decide) ?_
        exact hK2 w v0 v1 (v2 + 1) h H locs ls hP hS (lv_sub hl [1, 2, 0] rfl)
set_option maxRecDepth 100000 in
set_option maxHeartbeats 4000000 in
theorem sKXRe_placeInHeads_in {p : Program} {l : Launch} {e : Env} {s : State} {m : MethodId} {args : Array Value} {below : List Frame} {meth : Method} {c : Code} {D : va_G} {ca : Nat → Nat} {A : Nat → Prop} {post : Int32 → fh_T → Prop} (C0 : kCx p s m args meth c D ca A RXRe cXRe_placeInHeads 3 (some .int) "placeInHeads") : ∀ (w : fh_T) (a0 : Nat) (a1 : Nat), wKXRe_placeInHeads post w a0 a1 → ∀ (H : Heap) (locs : List Loc) (ls : Array Slot), fh_ok D ca A w H → va_S A s.heap H locs → lv_has ls 3 [(0, .ref a0), (1, .ref a1)] → W p l e ({ frames := 0, cells := 0, slots := 0, locals := 0 } : Room) s m args below meth c H locs 0 0 (MQ below (va_Qi post (fxC (fh_ok D ca A)) A) args s 0 0 A) (F0 m 0 ls []) := by
  obtain ⟨hx, hb, hr, hml, hown, hts, hlocks, hK, hN, hE, hA, hin⟩ := id C0
  intro w a0 a1 h H locs ls hP hS hl
  replace h : (∃ k, wKXRe_placeInHeads_2 post  k w a0 a1 0) := h
  refine lv_iconst (v := 0) hx hb dXRe_placeInHeads_0 (by decide) ?_
  refine lv_istore_n (lv' := [(2, .int 0), (0, .ref a0), (1, .ref a1)]) hx hb dXRe_placeInHeads_1 rfl hl (by decide) rfl (fun ls hl => ?_)
  obtain ⟨k, h⟩ := h
  exact sKXRe_placeInHeads_2  C0  k w a0 a1 0 h H locs ls hP hS (lv_sub hl [1, 2, 0] rfl)
set_option maxRecDepth 100000 in
set_option maxHeartbeats 4000000 in
theorem cKXRe_placeInHeads {l : Launch} {D : va_G} {ca : Nat → Nat} {A : Nat → Prop} {post : Int32 → fh_T → Prop} {w : fh_T} {a0 : Nat} {a1 : Nat} (h : wKXRe_placeInHeads post w a0 a1) : Met l yXRe_placeInHeads (.code yXRe_placeInHeads cXRe_placeInHeads 3 (some .int) :: lg_tbl) ({ frames := 0, cells := 0, slots := 0, locals := 0 } : Room) (va_Pc [.ref a0, .ref a1] (kB D ca A w)) (va_Qi post (fxC (fh_ok D ca A)) A) 0 0 A := by
  refine fx_start (by decide +kernel) (Nat.le_of_ble_eq_true rfl) ?_
  intro p e s m below meth c ls hx hb hr hml hown hts hlocks hnm hB hl
  exact sKXRe_placeInHeads_in ⟨hx, hb, hr, hml, hown, hts, hlocks, hB.2.2.1, hB.2.2.2.1, hB.2.2.2.2, hB.2.1, hnm⟩ w a0 a1 h _ _ ls hB.1 va_S.rf hl
def wKXRe_hold (post : fh_T → Prop) (w : fh_T) (a0 : Nat) (a1 : Nat) : Prop := (∃ x1, fh_g w a0 4 4 (.long x1) ∧ (∃ x3, fh_g w a1 7 1 (.int x3) ∧ (∃ fs5, w a0 = some (.inr (4, fs5)) ∧ 4 < fs5.length ∧ ∀ w6, w6 = fh_up w a0 (.inr (4, fs5.set 4 (.long (x1 ||| (hj_shl 1 x3))))) → (∃ x9, fh_g w6 a0 4 1 (.ref x9) ∧ (∃ fs12, w6 a0 = some (.inr (4, fs12)) ∧ (wKXRe_placeInOrder (fun r11 w_11 => (∃ fs15, w_11 x9 = some (.inr (3, fs15)) ∧ (wKXRo_insert (fun w_14 => (∃ x17, fh_g w_14 a0 4 2 (.ref x17) ∧ (∃ x19, fh_g w_14 a1 7 3 (.long x19) ∧ (∃ fs22, w_14 x17 = some (.inr (3, fs22)) ∧ (wKXRo_removeAll (fun w_21 => (∃ x24, fh_g w_21 a0 4 2 (.ref x24) ∧ (∃ fs27, w_21 a0 = some (.inr (4, fs27)) ∧ (wKXRe_placeInHeads (fun r26 w_26 => (∃ fs30, w_26 x24 = some (.inr (3, fs30)) ∧ (wKXRo_insert (fun w_29 => (post w_29)) w_26 x24 r26 a1))) w_21 a0 a1)))) w_14 x17 x19))))) w_11 x9 r11 a1))) w6 a0 a1))))))
set_option maxRecDepth 100000 in
set_option maxHeartbeats 4000000 in
theorem sKXRe_hold_in {p : Program} {l : Launch} {e : Env} {s : State} {m : MethodId} {args : Array Value} {below : List Frame} {meth : Method} {c : Code} {D : va_G} {ca : Nat → Nat} {A : Nat → Prop} {post : fh_T → Prop} (C0 : kCx p s m args meth c D ca A RXRe cXRe_hold 2 none "hold") : ∀ (w : fh_T) (a0 : Nat) (a1 : Nat), wKXRe_hold post w a0 a1 → ∀ (H : Heap) (locs : List Loc) (ls : Array Slot), fh_ok D ca A w H → va_S A s.heap H locs → lv_has ls 2 [(0, .ref a0), (1, .ref a1)] → W p l e ({ frames := 2, cells := 0, slots := 0, locals := 46 } : Room) s m args below meth c H locs 0 0 (MQ below (va_Qv post (fxC (fh_ok D ca A)) A) args s 0 0 A) (F0 m 0 ls []) := by
  obtain ⟨hx, hb, hr, hml, hown, hts, hlocks, hK, hN, hE, hA, hin⟩ := id C0
  intro w a0 a1 h H locs ls hP hS hl
  replace h : (∃ x1, fh_g w a0 4 4 (.long x1) ∧ (∃ x3, fh_g w a1 7 1 (.int x3) ∧ (∃ fs5, w a0 = some (.inr (4, fs5)) ∧ 4 < fs5.length ∧ ∀ w6, w6 = fh_up w a0 (.inr (4, fs5.set 4 (.long (x1 ||| (hj_shl 1 x3))))) → (∃ x9, fh_g w6 a0 4 1 (.ref x9) ∧ (∃ fs12, w6 a0 = some (.inr (4, fs12)) ∧ (wKXRe_placeInOrder (fun r11 w_11 => (∃ fs15, w_11 x9 = some (.inr (3, fs15)) ∧ (wKXRo_insert (fun w_14 => (∃ x17, fh_g w_14 a0 4 2 (.ref x17) ∧ (∃ x19, fh_g w_14 a1 7 3 (.long x19) ∧ (∃ fs22, w_14 x17 = some (.inr (3, fs22)) ∧ (wKXRo_removeAll (fun w_21 => (∃ x24, fh_g w_21 a0 4 2 (.ref x24) ∧ (∃ fs27, w_21 a0 = some (.inr (4, fs27)) ∧ (wKXRe_placeInHeads (fun r26 w_26 => (∃ fs30, w_26 x24 = some (.inr (3, fs30)) ∧ (wKXRo_insert (fun w_29 => (post w_29)) w_26 x24 r26 a1))) w_21 a0 a1)))) w_14 x17 x19))))) w_11 x9 r11 a1))) w6 a0 a1)))))) := h
  refine lv_aload_n hx hb dXRe_hold_0 rfl (lv_at hl 0 rfl) ?_
  refine lv_dup hx hb dXRe_hold_1 rfl ?_
  obtain ⟨x1, g2, h⟩ := h
  refine kg_XRe_32 hx hb hown hts hN hK hP g2 dXRe_hold_2 ?_
  refine lv_lconst (v := 1) hx hb dXRe_hold_5 (by decide) ?_
  refine lv_aload_n hx hb dXRe_hold_6 rfl (lv_at hl 1 rfl) ?_
  obtain ⟨x3, g4, h⟩ := h
  refine kg_XRe_36 hx hb hown hts hN hK hP g4 dXRe_hold_7 ?_
  refine lv_lshl (v := hj_shl 1 x3) hx hb dXRe_hold_10 rfl ?_
  refine lv_lor hx hb dXRe_hold_11 ?_
  obtain ⟨fs5, g7, g8, h⟩ := h
  obtain ⟨w6, ew6⟩ : ∃ y, y = fh_up w a0 (.inr (4, fs5.set 4 (.long (x1 ||| (hj_shl 1 x3))))) := ⟨_, rfl⟩
  replace h := h w6 ew6
  refine kp_XRe_32 hx hb hown hts hN hK hP hS g7 g8 dXRe_hold_12 (fun H locs hP hS => ?_)
  rw [← ew6] at hP
  refine lv_aload_n hx hb dXRe_hold_15 rfl (lv_at hl 0 rfl) ?_
  obtain ⟨x9, g10, h⟩ := h
  refine kg_XRe_12 hx hb hown hts hN hK hP g10 dXRe_hold_16 ?_
  refine lv_aload_n hx hb dXRe_hold_19 rfl (lv_at hl 0 rfl) ?_
  refine lv_aload_n hx hb dXRe_hold_20 rfl (lv_at hl 1 rfl) ?_
  obtain ⟨fs12, g13, h⟩ := h
  refine va_calli (va_runV (As := [.ref a1]) (rest := [.ref x9]) ⟨hx, hb, hml, hown, hts⟩ (cKXRe_placeInOrder h) (gc_XRe_119 hts hN ⟨Nat.le_of_ble_eq_true rfl, Nat.le_of_ble_eq_true rfl⟩) (k_preV g13 rfl hP hS hA hK hN hE) rfl rfl hl.1 rfl (lv_room (Nat.le_of_ble_eq_true rfl)) dXRe_hold_21 ⟨Nat.le_of_ble_eq_true rfl, Nat.le_of_ble_eq_true rfl⟩) hS (fun _ _ q => q) (fun _ q => q) (fun r11 w_11 t H locs ht hvm h hP hz hk hS => ?_)
  rw [fxC, ht] at hP
  refine lv_aload_n hx hb dXRe_hold_24 rfl (lv_at hl 1 rfl) ?_
  obtain ⟨fs15, g16, h⟩ := h
  refine va_callv (va_runV (As := [.int r11, .ref a1]) (rest := []) ⟨hx, hb, hml, hown, hts⟩ (cKXRo_insert h) (gc_XRe_123 hts hN ⟨Nat.le_of_ble_eq_true rfl, Nat.le_of_ble_eq_true rfl⟩) (k_preV g16 rfl hP hS hA hK hN hE) rfl rfl hl.1 rfl (lv_room (Nat.le_of_ble_eq_true rfl)) dXRe_hold_25 ⟨Nat.le_of_ble_eq_true rfl, Nat.le_of_ble_eq_true rfl⟩) hS (fun _ _ q => q) (fun _ q => q) (fun w_14 t H locs ht hvm h hP hz hk hS => ?_)
  rw [fxC, ht] at hP
  refine lv_aload_n hx hb dXRe_hold_28 rfl (lv_at hl 0 rfl) ?_
  obtain ⟨x17, g18, h⟩ := h
  refine kg_XRe_18 hx hb hown hts hN hK hP g18 dXRe_hold_29 ?_
  refine lv_aload_n hx hb dXRe_hold_32 rfl (lv_at hl 1 rfl) ?_
  obtain ⟨x19, g20, h⟩ := h
  refine kg_XRe_127 hx hb hown hts hN hK hP g20 dXRe_hold_33 ?_
  obtain ⟨fs22, g23, h⟩ := h
  refine va_callv (va_runV (As := [.long x19]) (rest := []) ⟨hx, hb, hml, hown, hts⟩ (cKXRo_removeAll h) (gc_XRe_130 hts hN ⟨Nat.le_of_ble_eq_true rfl, Nat.le_of_ble_eq_true rfl⟩) (k_preV g23 rfl hP hS hA hK hN hE) rfl rfl hl.1 rfl (lv_room (Nat.le_of_ble_eq_true rfl)) dXRe_hold_36 ⟨Nat.le_of_ble_eq_true rfl, Nat.le_of_ble_eq_true rfl⟩) hS (fun _ _ q => q) (fun _ q => q) (fun w_21 t H locs ht hvm h hP hz hk hS => ?_)
  rw [fxC, ht] at hP
  refine lv_aload_n hx hb dXRe_hold_39 rfl (lv_at hl 0 rfl) ?_
  obtain ⟨x24, g25, h⟩ := h
  refine kg_XRe_18 hx hb hown hts hN hK hP g25 dXRe_hold_40 ?_
  refine lv_aload_n hx hb dXRe_hold_43 rfl (lv_at hl 0 rfl) ?_
  refine lv_aload_n hx hb dXRe_hold_44 rfl (lv_at hl 1 rfl) ?_
  obtain ⟨fs27, g28, h⟩ := h
  refine va_calli (va_runV (As := [.ref a1]) (rest := [.ref x24]) ⟨hx, hb, hml, hown, hts⟩ (cKXRe_placeInHeads h) (gc_XRe_134 hts hN ⟨Nat.le_of_ble_eq_true rfl, Nat.le_of_ble_eq_true rfl⟩) (k_preV g28 rfl hP hS hA hK hN hE) rfl rfl hl.1 rfl (lv_room (Nat.le_of_ble_eq_true rfl)) dXRe_hold_45 ⟨Nat.le_of_ble_eq_true rfl, Nat.le_of_ble_eq_true rfl⟩) hS (fun _ _ q => q) (fun _ q => q) (fun r26 w_26 t H locs ht hvm h hP hz hk hS => ?_)
  rw [fxC, ht] at hP
  refine lv_aload_n hx hb dXRe_hold_48 rfl (lv_at hl 1 rfl) ?_
  obtain ⟨fs30, g31, h⟩ := h
  refine va_callv (va_runV (As := [.int r26, .ref a1]) (rest := []) ⟨hx, hb, hml, hown, hts⟩ (cKXRo_insert h) (gc_XRe_123 hts hN ⟨Nat.le_of_ble_eq_true rfl, Nat.le_of_ble_eq_true rfl⟩) (k_preV g31 rfl hP hS hA hK hN hE) rfl rfl hl.1 rfl (lv_room (Nat.le_of_ble_eq_true rfl)) dXRe_hold_49 ⟨Nat.le_of_ble_eq_true rfl, Nat.le_of_ble_eq_true rfl⟩) hS (fun _ _ q => q) (fun _ q => q) (fun w_29 t H locs ht hvm h hP hz hk hS => ?_)
  rw [fxC, ht] at hP
  exact W.vret hx hb hr (fun t ht hW => ⟨⟨_, rfl, h, by rw [fxC, ht]; exact hP⟩, hS.F ht⟩) hS.2.2 dXRe_hold_52 hlocks
set_option maxRecDepth 100000 in
set_option maxHeartbeats 4000000 in
theorem cKXRe_hold {l : Launch} {D : va_G} {ca : Nat → Nat} {A : Nat → Prop} {post : fh_T → Prop} {w : fh_T} {a0 : Nat} {a1 : Nat} (h : wKXRe_hold post w a0 a1) : Met l yXRe_hold (.code yXRe_hold cXRe_hold 2 none :: lg_tbl) ({ frames := 2, cells := 0, slots := 0, locals := 46 } : Room) (va_Pc [.ref a0, .ref a1] (kB D ca A w)) (va_Qv post (fxC (fh_ok D ca A)) A) 0 0 A := by
  refine fx_start (by decide +kernel) (Nat.le_of_ble_eq_true rfl) ?_
  intro p e s m below meth c ls hx hb hr hml hown hts hlocks hnm hB hl
  exact sKXRe_hold_in ⟨hx, hb, hr, hml, hown, hts, hlocks, hB.2.2.1, hB.2.2.2.1, hB.2.2.2.2, hB.2.1, hnm⟩ w a0 a1 h _ _ ls hB.1 va_S.rf hl
def wKXRe_receive_103 (post : Int32 → fh_T → Prop) (w : fh_T) (mc : Nat) (ms : Nat) (v0 : Nat) (v2 : Nat) : Prop := (∃ fs79, w v0 = some (.inr (4, fs79)) ∧ (wKXRe_hold (fun w_78 => (post 1 w_78)) w v0 v2))
def wKXRe_receive_34 (post : Int32 → fh_T → Prop) (w : fh_T) (mc : Nat) (ms : Nat) (v0 : Nat) (t0 : Nat) : Prop := (∃ fs21, w t0 = some (.inr (5, fs21)) ∧ (wKXOp_isInShape (fun r20 w_20 => ((¬ r20 = 0 → (∃ fs25, w_20 v0 = some (.inr (4, fs25)) ∧ (wKXRe_holdsLinks (fun r24 w_24 => ((¬ r24 = 0 → (∃ x28, fh_g w_24 v0 4 0 (.ref x28) ∧ (∃ fs31, w_24 x28 = some (.inr (2, fs31)) ∧ (∃ a33 b34 mc35 ms36, mc = mc35 + a33 ∧ ms = ms36 + b34 ∧ (wKXKn_candidate (fun r30 w_30 => (∃ y37, r30 = some y37 ∧ (∃ x39, fh_g w_30 v0 4 0 (.ref x39) ∧ (∃ fs42, w_30 x39 = some (.inr (2, fs42)) ∧ (wKXKn_isFull (fun r41 w_41 => ((¬ r41 = 0 → (post 3 w_41)) ∧ (r41 = 0 → (∃ x45, fh_g w_41 v0 4 0 (.ref x45) ∧ (∃ fs48, w_41 x45 = some (.inr (2, fs48)) ∧ (wKXKn_isRight (fun r47 w_47 => ((¬ r47 = 0 → (∃ x51, fh_g w_47 v0 4 0 (.ref x51) ∧ (∃ fs54, w_47 x51 = some (.inr (2, fs54)) ∧ (wKXKn_add (fun w_53 => (wKXRe_receive_103 post  w_53 mc35 ms36 v0 y37)) w_47 x51 y37)))) ∧ (r47 = 0 → (post 3 w_47)))) w_41 x45 y37)))))) w_30 x39))))) w_24 a33 b34 x28 t0))))) ∧ (r24 = 0 → (∃ fs57, w_24 v0 = some (.inr (4, fs57)) ∧ (∃ a59 b60 mc61 ms62, mc = mc61 + a59 ∧ ms = ms62 + b60 ∧ (wKXRe_letWait (fun w_56 => (post 2 w_56)) w_24 a59 b60 v0 t0)))))) w_20 v0 t0))) ∧ (r20 = 0 → (post 3 w_20)))) w t0))
def wKXRe_receive_34v1 (post : Int32 → fh_T → Prop) (w : fh_T) (mc : Nat) (ms : Nat) (v0 : Nat) (v2 : Nat) (t0 : Nat) : Prop := (∃ fs64, w t0 = some (.inr (5, fs64)) ∧ (wKXOp_isInShape (fun r63 w_63 => ((¬ r63 = 0 → (∃ fs68, w_63 v0 = some (.inr (4, fs68)) ∧ (wKXRe_holdsLinks (fun r67 w_67 => ((¬ r67 = 0 → (wKXRe_receive_103 post  w_67 mc ms v0 v2)) ∧ (r67 = 0 → (∃ fs72, w_67 v0 = some (.inr (4, fs72)) ∧ (∃ a74 b75 mc76 ms77, mc = mc76 + a74 ∧ ms = ms77 + b75 ∧ (wKXRe_letWait (fun w_71 => (post 2 w_71)) w_67 a74 b75 v0 t0)))))) w_63 v0 t0))) ∧ (r63 = 0 → (post 3 w_63)))) w t0))
def wKXRe_receive (post : Int32 → fh_T → Prop) (w : fh_T) (mc : Nat) (ms : Nat) (a0 : Nat) (a1 : Nat) : Prop := (∃ x1, fh_g w a0 4 0 (.ref x1) ∧ (∃ x3, fh_g w a1 5 5 (.long x3) ∧ (∃ fs6, w x1 = some (.inr (2, fs6)) ∧ (wKXKn_find (fun r5 w_5 => ((r5 = none → (∃ fs9, w_5 a0 = some (.inr (4, fs9)) ∧ (wKXRe_holdsN (fun r8 w_8 => ((r8 = 0 → (wKXRe_receive_34 post  w_8 mc ms a0 a1)) ∧ (¬ r8 = 0 → (post 0 w_8)))) w_5 a0))) ∧ (∀ y12, r5 = some y12 → (∃ fs14, w_5 a0 = some (.inr (4, fs14)) ∧ (wKXRe_holds (fun r13 w_13 => ((r13 = 0 → (∃ x17, fh_g w_13 y12 7 0 (.ref x17) ∧ (wKXRe_receive_34v1 post  w_13 mc ms a0 y12 x17))) ∧ (¬ r13 = 0 → (post 0 w_13)))) w_5 a0 y12))))) w x1 x3))))
set_option maxRecDepth 100000 in
set_option maxHeartbeats 4000000 in
theorem sKXRe_receive_103 {p : Program} {l : Launch} {e : Env} {s : State} {m : MethodId} {args : Array Value} {below : List Frame} {meth : Method} {c : Code} {D : va_G} {ca : Nat → Nat} {A : Nat → Prop} {MC MS : Nat} {post : Int32 → fh_T → Prop} (C0 : kCx p s m args meth c D ca A RXRe cXRe_receive 4 (some .int) "receive") : ∀ (w : fh_T) (mc : Nat) (ms : Nat) (v0 : Nat) (v2 : Nat), wKXRe_receive_103 post  w mc ms v0 v2 → ∀ (H : Heap) (locs : List Loc) (ls : Array Slot), fh_ok D ca A w H → va_S A s.heap H locs → lv_has ls 4 [(0, .ref v0), (2, .ref v2)] → ∀ cells slots : Nat, cells + mc = MC → slots + ms = MS → W p l e ({ frames := 6, cells := MC, slots := MS, locals := 149 } : Room) s m args below meth c H locs cells slots (MQ below (va_Qi post (fxC (fh_ok D ca A)) A) args s MC MS A) (F0 m 103 ls []) := by
  obtain ⟨hx, hb, hr, hml, hown, hts, hlocks, hK, hN, hE, hA, hin⟩ := id C0
  intro w mc ms v0 v2 h H locs ls hP hS hl cells slots hbc hbs
  replace h : (∃ fs79, w v0 = some (.inr (4, fs79)) ∧ (wKXRe_hold (fun w_78 => (post 1 w_78)) w v0 v2)) := h
  refine lv_aload_n hx hb dXRe_receive_103 rfl (lv_at hl 0 rfl) ?_
  refine lv_aload_n hx hb dXRe_receive_104 rfl (lv_at hl 1 rfl) ?_
  obtain ⟨fs79, g80, h⟩ := h
  refine va_callv (va_runV (As := [.ref v2]) (rest := []) ⟨hx, hb, hml, hown, hts⟩ (cKXRe_hold h) (gc_XRe_107 hts hN ⟨Nat.le_of_ble_eq_true rfl, Nat.le_of_ble_eq_true rfl⟩) (k_preV g80 rfl hP hS hA hK hN hE) rfl rfl hl.1 rfl (lv_room (Nat.le_of_ble_eq_true rfl)) dXRe_receive_105 ⟨show cells + 0 ≤ MC by omega, show slots + 0 ≤ MS by omega⟩) hS (fun _ _ q => q) (fun _ q => q) (fun w_78 t H locs ht hvm h hP hz hk hS => ?_)
  rw [fxC, ht] at hP
  refine W.cs (cells' := cells) (slots' := slots) rfl rfl ?_
  refine lv_iconst (v := 1) hx hb dXRe_receive_108 (by decide) ?_
  refine W.widen (k := MC) (n := MS) (by omega) (by omega) ?_
  exact W.iret hx hb hr (fun t ht hW => ⟨⟨_, _, rfl, h, by rw [fxC, ht]; exact hP⟩, hS.F ht⟩) hS.2.2 dXRe_receive_109 hlocks
set_option maxRecDepth 100000 in
set_option maxHeartbeats 4000000 in
theorem sKXRe_receive_34 {p : Program} {l : Launch} {e : Env} {s : State} {m : MethodId} {args : Array Value} {below : List Frame} {meth : Method} {c : Code} {D : va_G} {ca : Nat → Nat} {A : Nat → Prop} {MC MS : Nat} {post : Int32 → fh_T → Prop} (C0 : kCx p s m args meth c D ca A RXRe cXRe_receive 4 (some .int) "receive") : ∀ (w : fh_T) (mc : Nat) (ms : Nat) (v0 : Nat) (t0 : Nat), wKXRe_receive_34 post  w mc ms v0 t0 → ∀ (H : Heap) (locs : List Loc) (ls : Array Slot), fh_ok D ca A w H → va_S A s.heap H locs → lv_has ls 4 [(0, .ref v0), (2, .null)] → ∀ cells slots : Nat, cells + mc = MC → slots + ms = MS → W p l e ({ frames := 6, cells := MC, slots := MS, locals := 149 } : Room) s m args below meth c H locs cells slots (MQ below (va_Qi post (fxC (fh_ok D ca A)) A) args s MC MS A) (F0 m 34 ls [.ref t0]) := by
  obtain ⟨hx, hb, hr, hml, hown, hts, hlocks, hK, hN, hE, hA, hin⟩ := id C0
  intro w mc ms v0 t0 h H locs ls hP hS hl cells slots hbc hbs
  replace h : (∃ fs21, w t0 = some (.inr (5, fs21)) ∧ (wKXOp_isInShape (fun r20 w_20 => ((¬ r20 = 0 → (∃ fs25, w_20 v0 = some (.inr (4, fs25)) ∧ (wKXRe_holdsLinks (fun r24 w_24 => ((¬ r24 = 0 → (∃ x28, fh_g w_24 v0 4 0 (.ref x28) ∧ (∃ fs31, w_24 x28 = some (.inr (2, fs31)) ∧ (∃ a33 b34 mc35 ms36, mc = mc35 + a33 ∧ ms = ms36 + b34 ∧ (wKXKn_candidate (fun r30 w_30 => (∃ y37, r30 = some y37 ∧ (∃ x39, fh_g w_30 v0 4 0 (.ref x39) ∧ (∃ fs42, w_30 x39 = some (.inr (2, fs42)) ∧ (wKXKn_isFull (fun r41 w_41 => ((¬ r41 = 0 → (post 3 w_41)) ∧ (r41 = 0 → (∃ x45, fh_g w_41 v0 4 0 (.ref x45) ∧ (∃ fs48, w_41 x45 = some (.inr (2, fs48)) ∧ (wKXKn_isRight (fun r47 w_47 => ((¬ r47 = 0 → (∃ x51, fh_g w_47 v0 4 0 (.ref x51) ∧ (∃ fs54, w_47 x51 = some (.inr (2, fs54)) ∧ (wKXKn_add (fun w_53 => (wKXRe_receive_103 post  w_53 mc35 ms36 v0 y37)) w_47 x51 y37)))) ∧ (r47 = 0 → (post 3 w_47)))) w_41 x45 y37)))))) w_30 x39))))) w_24 a33 b34 x28 t0))))) ∧ (r24 = 0 → (∃ fs57, w_24 v0 = some (.inr (4, fs57)) ∧ (∃ a59 b60 mc61 ms62, mc = mc61 + a59 ∧ ms = ms62 + b60 ∧ (wKXRe_letWait (fun w_56 => (post 2 w_56)) w_24 a59 b60 v0 t0)))))) w_20 v0 t0))) ∧ (r20 = 0 → (post 3 w_20)))) w t0)) := h
  refine lv_astore_n (lv' := [(3, .ref t0), (0, .ref v0), (2, .null)]) hx hb dXRe_receive_34 rfl hl (by decide) rfl (fun ls hl => ?_)
  refine lv_aload_n hx hb dXRe_receive_35 rfl (lv_at hl 0 rfl) ?_
  obtain ⟨fs21, g22, h⟩ := h
  refine va_calli (va_runV (As := []) (rest := []) ⟨hx, hb, hml, hown, hts⟩ (cKXOp_isInShape h) (gc_XRe_81 hts hN ⟨Nat.le_of_ble_eq_true rfl, Nat.le_of_ble_eq_true rfl⟩) (k_preV g22 rfl hP hS hA hK hN hE) rfl rfl hl.1 rfl (lv_room (Nat.le_of_ble_eq_true rfl)) dXRe_receive_36 ⟨show cells + 0 ≤ MC by omega, show slots + 0 ≤ MS by omega⟩) hS (fun _ _ q => q) (fun _ q => q) (fun r20 w_20 t H locs ht hvm h hP hz hk hS => ?_)
  rw [fxC, ht] at hP
  refine W.cs (cells' := cells) (slots' := slots) rfl rfl ?_
  refine lv_if_ne (tgt := 44) hx hb dXRe_receive_39 (by decide) (fun c23 => ?_) (fun c23 => ?_)
  · replace h := h.1 c23
    refine lv_aload_n hx hb dXRe_receive_44 rfl (lv_at hl 1 rfl) ?_
    refine lv_aload_n hx hb dXRe_receive_45 rfl (lv_at hl 0 rfl) ?_
    obtain ⟨fs25, g26, h⟩ := h
    refine va_calli (va_runV (As := [.ref t0]) (rest := []) ⟨hx, hb, hml, hown, hts⟩ (cKXRe_holdsLinks h) (gc_XRe_85 hts hN ⟨Nat.le_of_ble_eq_true rfl, Nat.le_of_ble_eq_true rfl⟩) (k_preV g26 rfl hP hS hA hK hN hE) rfl rfl hl.1 rfl (lv_room (Nat.le_of_ble_eq_true rfl)) dXRe_receive_46 ⟨show cells + 0 ≤ MC by omega, show slots + 0 ≤ MS by omega⟩) hS (fun _ _ q => q) (fun _ q => q) (fun r24 w_24 t H locs ht hvm h hP hz hk hS => ?_)
    rw [fxC, ht] at hP
    refine W.cs (cells' := cells) (slots' := slots) rfl rfl ?_
    refine lv_if_ne (tgt := 59) hx hb dXRe_receive_49 (by decide) (fun c27 => ?_) (fun c27 => ?_)
    · replace h := h.1 c27
      refine lv_aload_nN hx hb dXRe_receive_59 rfl (lv_at hl 2 rfl) ?_
      refine lv_ifnonnullN hx hb dXRe_receive_60 ?_
      refine lv_aload_n hx hb dXRe_receive_63 rfl (lv_at hl 1 rfl) ?_
      obtain ⟨x28, g29, h⟩ := h
      refine kg_XRe_28 hx hb hown hts hN hK hP g29 dXRe_receive_64 ?_
      refine lv_aload_n hx hb dXRe_receive_67 rfl (lv_at hl 0 rfl) ?_
      obtain ⟨fs31, g32, h⟩ := h
      obtain ⟨a33, b34, mc35, ms36, hm1, hm2, h⟩ := h
      refine va_calle (va_runV (As := [.ref t0]) (rest := []) ⟨hx, hb, hml, hown, hts⟩ (cKXKn_candidate h) (gc_XRe_93 hts hN ⟨Nat.le_of_ble_eq_true rfl, Nat.le_of_ble_eq_true rfl⟩) (k_preV g32 rfl hP hS hA hK hN hE) rfl rfl hl.1 rfl (lv_room (Nat.le_of_ble_eq_true rfl)) dXRe_receive_68 ⟨show cells + a33 ≤ MC by omega, show slots + b34 ≤ MS by omega⟩) hS (fun _ _ q => q) (fun _ q => q) (fun r30 w_30 t H locs ht hvm h hP hz hk hS => ?_)
      rw [fxC, ht] at hP
      refine W.cs (cells' := cells + a33) (slots' := slots + b34) rfl rfl ?_
      replace hbc : cells + a33 + mc35 = MC := by omega
      replace hbs : slots + b34 + ms36 = MS := by omega
      obtain ⟨y37, e38, h⟩ := h
      subst e38
      refine lv_astore_n (lv' := [(2, .ref y37), (3, .ref t0), (0, .ref v0)]) hx hb dXRe_receive_71 rfl hl (by decide) rfl (fun ls hl => ?_)
      refine lv_aload_n hx hb dXRe_receive_72 rfl (lv_at hl 2 rfl) ?_
      obtain ⟨x39, g40, h⟩ := h
      refine kg_XRe_28 hx hb hown hts hN hK hP g40 dXRe_receive_73 ?_
      obtain ⟨fs42, g43, h⟩ := h
      refine va_calli (va_runV (As := []) (rest := []) ⟨hx, hb, hml, hown, hts⟩ (cKXKn_isFull h) (gc_XRe_97 hts hN ⟨Nat.le_of_ble_eq_true rfl, Nat.le_of_ble_eq_true rfl⟩) (k_preV g43 rfl hP hS hA hK hN hE) rfl rfl hl.1 rfl (lv_room (Nat.le_of_ble_eq_true rfl)) dXRe_receive_76 ⟨show cells + a33 + 0 ≤ MC by omega, show slots + b34 + 0 ≤ MS by omega⟩) hS (fun _ _ q => q) (fun _ q => q) (fun r41 w_41 t H locs ht hvm h hP hz hk hS => ?_)
      rw [fxC, ht] at hP
      refine W.cs (cells' := cells + a33) (slots' := slots + b34) rfl rfl ?_
      refine lv_if_ne (tgt := 93) hx hb dXRe_receive_79 (by decide) (fun c44 => ?_) (fun c44 => ?_)
      · replace h := h.1 c44
        refine lv_iconst (v := 3) hx hb dXRe_receive_93 (by decide) ?_
        refine W.widen (k := MC) (n := MS) (by omega) (by omega) ?_
        exact W.iret hx hb hr (fun t ht hW => ⟨⟨_, _, rfl, h, by rw [fxC, ht]; exact hP⟩, hS.F ht⟩) hS.2.2 dXRe_receive_94 hlocks
      · replace h := h.2 c44
        refine lv_aload_n hx hb dXRe_receive_82 rfl (lv_at hl 2 rfl) ?_
        obtain ⟨x45, g46, h⟩ := h
        refine kg_XRe_28 hx hb hown hts hN hK hP g46 dXRe_receive_83 ?_
        refine lv_aload_n hx hb dXRe_receive_86 rfl (lv_at hl 0 rfl) ?_
        obtain ⟨fs48, g49, h⟩ := h
        refine va_calli (va_runV (As := [.ref y37]) (rest := []) ⟨hx, hb, hml, hown, hts⟩ (cKXKn_isRight h) (gc_XRe_100 hts hN ⟨Nat.le_of_ble_eq_true rfl, Nat.le_of_ble_eq_true rfl⟩) (k_preV g49 rfl hP hS hA hK hN hE) rfl rfl hl.1 rfl (lv_room (Nat.le_of_ble_eq_true rfl)) dXRe_receive_87 ⟨show cells + a33 + 0 ≤ MC by omega, show slots + b34 + 0 ≤ MS by omega⟩) hS (fun _ _ q => q) (fun _ q => q) (fun r47 w_47 t H locs ht hvm h hP hz hk hS => ?_)
        rw [fxC, ht] at hP
        refine W.cs (cells' := cells + a33) (slots' := slots + b34) rfl rfl ?_
        refine lv_if_ne (tgt := 95) hx hb dXRe_receive_90 (by decide) (fun c50 => ?_) (fun c50 => ?_)
        · replace h := h.1 c50
          refine lv_aload_n hx hb dXRe_receive_95 rfl (lv_at hl 2 rfl) ?_
          obtain ⟨x51, g52, h⟩ := h
          refine kg_XRe_28 hx hb hown hts hN hK hP g52 dXRe_receive_96 ?_
          refine lv_aload_n hx hb dXRe_receive_99 rfl (lv_at hl 0 rfl) ?_
          obtain ⟨fs54, g55, h⟩ := h
          refine va_callv (va_runV (As := [.ref y37]) (rest := []) ⟨hx, hb, hml, hown, hts⟩ (cKXKn_add h) (gc_XRe_103 hts hN ⟨Nat.le_of_ble_eq_true rfl, Nat.le_of_ble_eq_true rfl⟩) (k_preV g55 rfl hP hS hA hK hN hE) rfl rfl hl.1 rfl (lv_room (Nat.le_of_ble_eq_true rfl)) dXRe_receive_100 ⟨show cells + a33 + 0 ≤ MC by omega, show slots + b34 + 0 ≤ MS by omega⟩) hS (fun _ _ q => q) (fun _ q => q) (fun w_53 t H locs ht hvm h hP hz hk hS => ?_)
          rw [fxC, ht] at hP
          refine W.cs (cells' := cells + a33) (slots' := slots + b34) rfl rfl ?_
          exact sKXRe_receive_103  C0  w_53 mc35 ms36 v0 y37 h H locs ls hP hS (lv_sub hl [2, 0] rfl) _ _ hbc hbs
        · replace h := h.2 c50
          refine lv_iconst (v := 3) hx hb dXRe_receive_93 (by decide) ?_
          refine W.widen (k := MC) (n := MS) (by omega) (by omega) ?_
          exact W.iret hx hb hr (fun t ht hW => ⟨⟨_, _, rfl, h, by rw [fxC, ht]; exact hP⟩, hS.F ht⟩) hS.2.2 dXRe_receive_94 hlocks
    · replace h := h.2 c27
      refine lv_aload_n hx hb dXRe_receive_52 rfl (lv_at hl 1 rfl) ?_
      refine lv_aload_n hx hb dXRe_receive_53 rfl (lv_at hl 0 rfl) ?_
      obtain ⟨fs57, g58, h⟩ := h
      obtain ⟨a59, b60, mc61, ms62, hm1, hm2, h⟩ := h
      refine va_callv (va_runV (As := [.ref t0]) (rest := []) ⟨hx, hb, hml, hown, hts⟩ (cKXRe_letWait h) (gc_XRe_89 hts hN ⟨Nat.le_of_ble_eq_true rfl, Nat.le_of_ble_eq_true rfl⟩) (k_preV g58 rfl hP hS hA hK hN hE) rfl rfl hl.1 rfl (lv_room (Nat.le_of_ble_eq_true rfl)) dXRe_receive_54 ⟨show cells + a59 ≤ MC by omega, show slots + b60 ≤ MS by omega⟩) hS (fun _ _ q => q) (fun _ q => q) (fun w_56 t H locs ht hvm h hP hz hk hS => ?_)
      rw [fxC, ht] at hP
      refine W.cs (cells' := cells + a59) (slots' := slots + b60) rfl rfl ?_
      replace hbc : cells + a59 + mc61 = MC := by omega
      replace hbs : slots + b60 + ms62 = MS := by omega
      refine lv_iconst (v := 2) hx hb dXRe_receive_57 (by decide) ?_
      refine W.widen (k := MC) (n := MS) (by omega) (by omega) ?_
      exact W.iret hx hb hr (fun t ht hW => ⟨⟨_, _, rfl, h, by rw [fxC, ht]; exact hP⟩, hS.F ht⟩) hS.2.2 dXRe_receive_58 hlocks
  · replace h := h.2 c23
    refine lv_iconst (v := 3) hx hb dXRe_receive_42 (by decide) ?_
    refine W.widen (k := MC) (n := MS) (by omega) (by omega) ?_
    exact W.iret hx hb hr (fun t ht hW => ⟨⟨_, _, rfl, h, by rw [fxC, ht]; exact hP⟩, hS.F ht⟩) hS.2.2 dXRe_receive_43 hlocks
set_option maxRecDepth 100000 in
set_option maxHeartbeats 4000000 in
theorem sKXRe_receive_34v1 {p : Program} {l : Launch} {e : Env} {s : State} {m : MethodId} {args : Array Value} {below : List Frame} {meth : Method} {c : Code} {D : va_G} {ca : Nat → Nat} {A : Nat → Prop} {MC MS : Nat} {post : Int32 → fh_T → Prop} (C0 : kCx p s m args meth c D ca A RXRe cXRe_receive 4 (some .int) "receive") : ∀ (w : fh_T) (mc : Nat) (ms : Nat) (v0 : Nat) (v2 : Nat) (t0 : Nat), wKXRe_receive_34v1 post  w mc ms v0 v2 t0 → ∀ (H : Heap) (locs : List Loc) (ls : Array Slot), fh_ok D ca A w H → va_S A s.heap H locs → lv_has ls 4 [(0, .ref v0), (2, .ref v2)] → ∀ cells slots : Nat, cells + mc = MC → slots + ms = MS → W p l e ({ frames := 6, cells := MC, slots := MS, locals := 149 } : Room) s m args below meth c H locs cells slots (MQ below (va_Qi post (fxC (fh_ok D ca A)) A) args s MC MS A) (F0 m 34 ls [.ref t0]) := by
  obtain ⟨hx, hb, hr, hml, hown, hts, hlocks, hK, hN, hE, hA, hin⟩ := id C0
  intro w mc ms v0 v2 t0 h H locs ls hP hS hl cells slots hbc hbs
  replace h : (∃ fs64, w t0 = some (.inr (5, fs64)) ∧ (wKXOp_isInShape (fun r63 w_63 => ((¬ r63 = 0 → (∃ fs68, w_63 v0 = some (.inr (4, fs68)) ∧ (wKXRe_holdsLinks (fun r67 w_67 => ((¬ r67 = 0 → (wKXRe_receive_103 post  w_67 mc ms v0 v2)) ∧ (r67 = 0 → (∃ fs72, w_67 v0 = some (.inr (4, fs72)) ∧ (∃ a74 b75 mc76 ms77, mc = mc76 + a74 ∧ ms = ms77 + b75 ∧ (wKXRe_letWait (fun w_71 => (post 2 w_71)) w_67 a74 b75 v0 t0)))))) w_63 v0 t0))) ∧ (r63 = 0 → (post 3 w_63)))) w t0)) := h
  refine lv_astore_n (lv' := [(3, .ref t0), (0, .ref v0), (2, .ref v2)]) hx hb dXRe_receive_34 rfl hl (by decide) rfl (fun ls hl => ?_)
  refine lv_aload_n hx hb dXRe_receive_35 rfl (lv_at hl 0 rfl) ?_
  obtain ⟨fs64, g65, h⟩ := h
  refine va_calli (va_runV (As := []) (rest := []) ⟨hx, hb, hml, hown, hts⟩ (cKXOp_isInShape h) (gc_XRe_81 hts hN ⟨Nat.le_of_ble_eq_true rfl, Nat.le_of_ble_eq_true rfl⟩) (k_preV g65 rfl hP hS hA hK hN hE) rfl rfl hl.1 rfl (lv_room (Nat.le_of_ble_eq_true rfl)) dXRe_receive_36 ⟨show cells + 0 ≤ MC by omega, show slots + 0 ≤ MS by omega⟩) hS (fun _ _ q => q) (fun _ q => q) (fun r63 w_63 t H locs ht hvm h hP hz hk hS => ?_)
  rw [fxC, ht] at hP
  refine W.cs (cells' := cells) (slots' := slots) rfl rfl ?_
  refine lv_if_ne (tgt := 44) hx hb dXRe_receive_39 (by decide) (fun c66 => ?_) (fun c66 => ?_)
  · replace h := h.1 c66
    refine lv_aload_n hx hb dXRe_receive_44 rfl (lv_at hl 1 rfl) ?_
    refine lv_aload_n hx hb dXRe_receive_45 rfl (lv_at hl 0 rfl) ?_
    obtain ⟨fs68, g69, h⟩ := h
    refine va_calli (va_runV (As := [.ref t0]) (rest := []) ⟨hx, hb, hml, hown, hts⟩ (cKXRe_holdsLinks h) (gc_XRe_85 hts hN ⟨Nat.le_of_ble_eq_true rfl, Nat.le_of_ble_eq_true rfl⟩) (k_preV g69 rfl hP hS hA hK hN hE) rfl rfl hl.1 rfl (lv_room (Nat.le_of_ble_eq_true rfl)) dXRe_receive_46 ⟨show cells + 0 ≤ MC by omega, show slots + 0 ≤ MS by omega⟩) hS (fun _ _ q => q) (fun _ q => q) (fun r67 w_67 t H locs ht hvm h hP hz hk hS => ?_)
    rw [fxC, ht] at hP
    refine W.cs (cells' := cells) (slots' := slots) rfl rfl ?_
    refine lv_if_ne (tgt := 59) hx hb dXRe_receive_49 (by decide) (fun c70 => ?_) (fun c70 => ?_)
    · replace h := h.1 c70
      refine lv_aload_n hx hb dXRe_receive_59 rfl (lv_at hl 2 rfl) ?_
      refine lv_ifnonnull (tgt := 103) hx hb dXRe_receive_60 (by decide) ?_
      exact sKXRe_receive_103  C0  w_67 mc ms v0 v2 h H locs ls hP hS (lv_sub hl [1, 2] rfl) _ _ hbc hbs
    · replace h := h.2 c70
      refine lv_aload_n hx hb dXRe_receive_52 rfl (lv_at hl 1 rfl) ?_
      refine lv_aload_n hx hb dXRe_receive_53 rfl (lv_at hl 0 rfl) ?_
      obtain ⟨fs72, g73, h⟩ := h
      obtain ⟨a74, b75, mc76, ms77, hm1, hm2, h⟩ := h
      refine va_callv (va_runV (As := [.ref t0]) (rest := []) ⟨hx, hb, hml, hown, hts⟩ (cKXRe_letWait h) (gc_XRe_89 hts hN ⟨Nat.le_of_ble_eq_true rfl, Nat.le_of_ble_eq_true rfl⟩) (k_preV g73 rfl hP hS hA hK hN hE) rfl rfl hl.1 rfl (lv_room (Nat.le_of_ble_eq_true rfl)) dXRe_receive_54 ⟨show cells + a74 ≤ MC by omega, show slots + b75 ≤ MS by omega⟩) hS (fun _ _ q => q) (fun _ q => q) (fun w_71 t H locs ht hvm h hP hz hk hS => ?_)
      rw [fxC, ht] at hP
      refine W.cs (cells' := cells + a74) (slots' := slots + b75) rfl rfl ?_
      replace hbc : cells + a74 + mc76 = MC := by omega
      replace hbs : slots + b75 + ms77 = MS := by omega
      refine lv_iconst (v := 2) hx hb dXRe_receive_57 (by decide) ?_
      refine W.widen (k := MC) (n := MS) (by omega) (by omega) ?_
      exact W.iret hx hb hr (fun t ht hW => ⟨⟨_, _, rfl, h, by rw [fxC, ht]; exact hP⟩, hS.F ht⟩) hS.2.2 dXRe_receive_58 hlocks
  · replace h := h.2 c66
    refine lv_iconst (v := 3) hx hb dXRe_receive_42 (by decide) ?_
    refine W.widen (k := MC) (n := MS) (by omega) (by omega) ?_
    exact W.iret hx hb hr (fun t ht hW => ⟨⟨_, _, rfl, h, by rw [fxC, ht]; exact hP⟩, hS.F ht⟩) hS.2.2 dXRe_receive_43 hlocks
set_option maxRecDepth 100000 in
set_option maxHeartbeats 4000000 in
theorem sKXRe_receive_in {p : Program} {l : Launch} {e : Env} {s : State} {m : MethodId} {args : Array Value} {below : List Frame} {meth : Method} {c : Code} {D : va_G} {ca : Nat → Nat} {A : Nat → Prop} {MC MS : Nat} {post : Int32 → fh_T → Prop} (C0 : kCx p s m args meth c D ca A RXRe cXRe_receive 4 (some .int) "receive") : ∀ (w : fh_T) (mc : Nat) (ms : Nat) (a0 : Nat) (a1 : Nat), wKXRe_receive post w mc ms a0 a1 → ∀ (H : Heap) (locs : List Loc) (ls : Array Slot), fh_ok D ca A w H → va_S A s.heap H locs → lv_has ls 4 [(0, .ref a0), (1, .ref a1)] → ∀ cells slots : Nat, cells + mc = MC → slots + ms = MS → W p l e ({ frames := 6, cells := MC, slots := MS, locals := 149 } : Room) s m args below meth c H locs cells slots (MQ below (va_Qi post (fxC (fh_ok D ca A)) A) args s MC MS A) (F0 m 0 ls []) := by
  obtain ⟨hx, hb, hr, hml, hown, hts, hlocks, hK, hN, hE, hA, hin⟩ := id C0
  intro w mc ms a0 a1 h H locs ls hP hS hl cells slots hbc hbs
  replace h : (∃ x1, fh_g w a0 4 0 (.ref x1) ∧ (∃ x3, fh_g w a1 5 5 (.long x3) ∧ (∃ fs6, w x1 = some (.inr (2, fs6)) ∧ (wKXKn_find (fun r5 w_5 => ((r5 = none → (∃ fs9, w_5 a0 = some (.inr (4, fs9)) ∧ (wKXRe_holdsN (fun r8 w_8 => ((r8 = 0 → (wKXRe_receive_34 post  w_8 mc ms a0 a1)) ∧ (¬ r8 = 0 → (post 0 w_8)))) w_5 a0))) ∧ (∀ y12, r5 = some y12 → (∃ fs14, w_5 a0 = some (.inr (4, fs14)) ∧ (wKXRe_holds (fun r13 w_13 => ((r13 = 0 → (∃ x17, fh_g w_13 y12 7 0 (.ref x17) ∧ (wKXRe_receive_34v1 post  w_13 mc ms a0 y12 x17))) ∧ (¬ r13 = 0 → (post 0 w_13)))) w_5 a0 y12))))) w x1 x3)))) := h
  refine lv_aload_n hx hb dXRe_receive_0 rfl (lv_at hl 0 rfl) ?_
  obtain ⟨x1, g2, h⟩ := h
  refine kg_XRe_28 hx hb hown hts hN hK hP g2 dXRe_receive_1 ?_
  refine lv_aload_n hx hb dXRe_receive_4 rfl (lv_at hl 1 rfl) ?_
  obtain ⟨x3, g4, h⟩ := h
  refine kg_XRe_74 hx hb hown hts hN hK hP g4 dXRe_receive_5 ?_
  obtain ⟨fs6, g7, h⟩ := h
  refine va_calle (va_runV (As := [.long x3]) (rest := []) ⟨hx, hb, hml, hown, hts⟩ (cKXKn_find h) (gc_XRe_52 hts hN ⟨Nat.le_of_ble_eq_true rfl, Nat.le_of_ble_eq_true rfl⟩) (k_preV g7 rfl hP hS hA hK hN hE) rfl rfl hl.1 rfl (lv_room (Nat.le_of_ble_eq_true rfl)) dXRe_receive_8 ⟨show cells + 0 ≤ MC by omega, show slots + 0 ≤ MS by omega⟩) hS (fun _ _ q => q) (fun _ q => q) (fun r5 w_5 t H locs ht hvm h hP hz hk hS => ?_)
  rw [fxC, ht] at hP
  refine W.cs (cells' := cells) (slots' := slots) rfl rfl ?_
  rcases e19 : r5 with _ | y12
  · replace h := h.1 e19
    subst e19
    refine lv_astore_nN (lv' := [(2, .null), (0, .ref a0), (1, .ref a1)]) hx hb dXRe_receive_11 rfl hl (by decide) rfl (fun ls hl => ?_)
    refine lv_aload_n hx hb dXRe_receive_12 rfl (lv_at hl 1 rfl) ?_
    refine lv_aload_nN hx hb dXRe_receive_13 rfl (lv_at hl 0 rfl) ?_
    obtain ⟨fs9, g10, h⟩ := h
    refine va_calli (va_runV (As := [.null]) (rest := []) ⟨hx, hb, hml, hown, hts⟩ (cKXRe_holdsN h) (gc_XRe_58 hts hN ⟨Nat.le_of_ble_eq_true rfl, Nat.le_of_ble_eq_true rfl⟩) (k_preV g10 rfl hP hS hA hK hN hE) rfl rfl hl.1 rfl (lv_room (Nat.le_of_ble_eq_true rfl)) dXRe_receive_14 ⟨show cells + 0 ≤ MC by omega, show slots + 0 ≤ MS by omega⟩) hS (fun _ _ q => q) (fun _ q => q) (fun r8 w_8 t H locs ht hvm h hP hz hk hS => ?_)
    rw [fxC, ht] at hP
    refine W.cs (cells' := cells) (slots' := slots) rfl rfl ?_
    refine lv_if_eq (tgt := 22) hx hb dXRe_receive_17 (by decide) (fun c11 => ?_) (fun c11 => ?_)
    · replace h := h.1 c11
      refine lv_aload_nN hx hb dXRe_receive_22 rfl (lv_at hl 0 rfl) ?_
      refine lv_ifnonnullN hx hb dXRe_receive_23 ?_
      refine lv_aload_n hx hb dXRe_receive_26 rfl (lv_at hl 2 rfl) ?_
      refine lv_goto (tgt := 34) hx hb dXRe_receive_27 (by decide) ?_
      exact sKXRe_receive_34  C0  w_8 mc ms a0 a1 h H locs ls hP hS (lv_sub hl [1, 0] rfl) _ _ hbc hbs
    · replace h := h.2 c11
      refine lv_iconst (v := 0) hx hb dXRe_receive_20 (by decide) ?_
      refine W.widen (k := MC) (n := MS) (by omega) (by omega) ?_
      exact W.iret hx hb hr (fun t ht hW => ⟨⟨_, _, rfl, h, by rw [fxC, ht]; exact hP⟩, hS.F ht⟩) hS.2.2 dXRe_receive_21 hlocks
  · replace h := h.2 y12 e19
    subst e19
    refine lv_astore_n (lv' := [(2, .ref y12), (0, .ref a0), (1, .ref a1)]) hx hb dXRe_receive_11 rfl hl (by decide) rfl (fun ls hl => ?_)
    refine lv_aload_n hx hb dXRe_receive_12 rfl (lv_at hl 1 rfl) ?_
    refine lv_aload_n hx hb dXRe_receive_13 rfl (lv_at hl 0 rfl) ?_
    obtain ⟨fs14, g15, h⟩ := h
    refine va_calli (va_runV (As := [.ref y12]) (rest := []) ⟨hx, hb, hml, hown, hts⟩ (cKXRe_holds h) (gc_XRe_58 hts hN ⟨Nat.le_of_ble_eq_true rfl, Nat.le_of_ble_eq_true rfl⟩) (k_preV g15 rfl hP hS hA hK hN hE) rfl rfl hl.1 rfl (lv_room (Nat.le_of_ble_eq_true rfl)) dXRe_receive_14 ⟨show cells + 0 ≤ MC by omega, show slots + 0 ≤ MS by omega⟩) hS (fun _ _ q => q) (fun _ q => q) (fun r13 w_13 t H locs ht hvm h hP hz hk hS => ?_)
    rw [fxC, ht] at hP
    refine W.cs (cells' := cells) (slots' := slots) rfl rfl ?_
    refine lv_if_eq (tgt := 22) hx hb dXRe_receive_17 (by decide) (fun c16 => ?_) (fun c16 => ?_)
    · replace h := h.1 c16
      refine lv_aload_n hx hb dXRe_receive_22 rfl (lv_at hl 0 rfl) ?_
      refine lv_ifnonnull (tgt := 30) hx hb dXRe_receive_23 (by decide) ?_
      refine lv_aload_n hx hb dXRe_receive_30 rfl (lv_at hl 0 rfl) ?_
      obtain ⟨x17, g18, h⟩ := h
      refine kg_XRe_77 hx hb hown hts hN hK hP g18 dXRe_receive_31 ?_
      exact sKXRe_receive_34v1  C0  w_13 mc ms a0 y12 x17 h H locs ls hP hS (lv_sub hl [1, 0] rfl) _ _ hbc hbs
    · replace h := h.2 c16
      refine lv_iconst (v := 0) hx hb dXRe_receive_20 (by decide) ?_
      refine W.widen (k := MC) (n := MS) (by omega) (by omega) ?_
      exact W.iret hx hb hr (fun t ht hW => ⟨⟨_, _, rfl, h, by rw [fxC, ht]; exact hP⟩, hS.F ht⟩) hS.2.2 dXRe_receive_21 hlocks
set_option maxRecDepth 100000 in
set_option maxHeartbeats 4000000 in
theorem cKXRe_receive {l : Launch} {D : va_G} {ca : Nat → Nat} {A : Nat → Prop} {post : Int32 → fh_T → Prop} {w : fh_T} {mc : Nat} {ms : Nat} {a0 : Nat} {a1 : Nat} (h : wKXRe_receive post w mc ms a0 a1) : Met l yXRe_receive (.code yXRe_receive cXRe_receive 4 (some .int) :: lg_tbl) ({ frames := 6, cells := mc, slots := ms, locals := 149 } : Room) (va_Pc [.ref a0, .ref a1] (kB D ca A w)) (va_Qi post (fxC (fh_ok D ca A)) A) mc ms A := by
  refine fx_start (by decide +kernel) (Nat.le_of_ble_eq_true rfl) ?_
  intro p e s m below meth c ls hx hb hr hml hown hts hlocks hnm hB hl
  exact sKXRe_receive_in ⟨hx, hb, hr, hml, hown, hts, hlocks, hB.2.2.1, hB.2.2.2.1, hB.2.2.2.2, hB.2.1, hnm⟩ w mc ms a0 a1 h _ _ ls hB.1 va_S.rf hl 0 0 (Nat.zero_add _) (Nat.zero_add _)
noncomputable def wKXRe_firstReady_2 (post : Int32 → fh_T → Prop) (n : Nat) : fh_T → Nat → Int32 → Prop := Nat.rec (motive := fun _ => fh_T → Nat → Int32 → Prop) (fun _ _ _ => False) (fun _ K2 w v0 v1 => (∃ x1, fh_g w v0 4 3 (.ref x1) ∧ (∃ fs4, w x1 = some (.inr (9, fs4)) ∧ (wKXAL_size (fun r3 w_3 => ((r3 ≤ v1 → (post (-1) w_3)) ∧ (¬ r3 ≤ v1 → (∃ x7, fh_g w_3 v0 4 3 (.ref x7) ∧ (∃ fs10, w_3 x7 = some (.inr (9, fs10)) ∧ (wKXAL_get (fun r9 w_9 => (∃ y12, r9 = some y12 ∧ (∃ fs14, w_9 y12 = some (.inr (5, fs14)) ∧ (∃ fs17, w_9 v0 = some (.inr (4, fs17)) ∧ (wKXRe_holdsLinks (fun r16 w_16 => ((r16 = 0 → (K2 w_16 v0 (v1 + 1))) ∧ (¬ r16 = 0 → (post v1 w_16)))) w_9 v0 y12))))) w_3 x7 v1)))))) w x1)))) n
def wKXRe_firstReady (post : Int32 → fh_T → Prop) (w : fh_T) (a0 : Nat) : Prop := (∃ k, wKXRe_firstReady_2 post  k w a0 0)
set_option maxRecDepth 100000 in
set_option maxHeartbeats 4000000 in
theorem sKXRe_firstReady_2 {p : Program} {l : Launch} {e : Env} {s : State} {m : MethodId} {args : Array Value} {below : List Frame} {meth : Method} {c : Code} {D : va_G} {ca : Nat → Nat} {A : Nat → Prop} {post : Int32 → fh_T → Prop} (C0 : kCx p s m args meth c D ca A RXRe cXRe_firstReady 2 (some .int) "firstReady") : ∀ (n : Nat) (w : fh_T) (v0 : Nat) (v1 : Int32), wKXRe_firstReady_2 post  n w v0 v1 → ∀ (H : Heap) (locs : List Loc) (ls : Array Slot), fh_ok D ca A w H → va_S A s.heap H locs → lv_has ls 2 [(0, .ref v0), (1, .int v1)] → W p l e ({ frames := 3, cells := 0, slots := 0, locals := 65 } : Room) s m args below meth c H locs 0 0 (MQ below (va_Qi post (fxC (fh_ok D ca A)) A) args s 0 0 A) (F0 m 2 ls []) := by
  obtain ⟨hx, hb, hr, hml, hown, hts, hlocks, hK, hN, hE, hA, hin⟩ := id C0
  intro n
  induction n with
  | zero => exact fun _ _ _ h => h.elim
  | succ n hK2 =>
    intro w v0 v1 h H locs ls hP hS hl
    replace h : (∃ x1, fh_g w v0 4 3 (.ref x1) ∧ (∃ fs4, w x1 = some (.inr (9, fs4)) ∧ (wKXAL_size (fun r3 w_3 => ((r3 ≤ v1 → (post (-1) w_3)) ∧ (¬ r3 ≤ v1 → (∃ x7, fh_g w_3 v0 4 3 (.ref x7) ∧ (∃ fs10, w_3 x7 = some (.inr (9, fs10)) ∧ (wKXAL_get (fun r9 w_9 => (∃ y12, r9 = some y12 ∧ (∃ fs14, w_9 y12 = some (.inr (5, fs14)) ∧ (∃ fs17, w_9 v0 = some (.inr (4, fs17)) ∧ (wKXRe_holdsLinks (fun r16 w_16 => ((r16 = 0 → ((wKXRe_firstReady_2 post  n) w_16 v0 (v1 + 1))) ∧ (¬ r16 = 0 → (post v1 w_16)))) w_9 v0 y12))))) w_3 x7 v1)))))) w x1))) := h
    refine lv_iload_n hx hb dXRe_firstReady_2 rfl (lv_at hl 1 rfl) ?_
    refine lv_aload_n hx hb dXRe_firstReady_3 rfl (lv_at hl 0 rfl) ?_
    obtain ⟨x1, g2, h⟩ := h
    refine kg_XRe_24 hx hb hown hts hN hK hP g2 dXRe_firstReady_4 ?_
    obtain ⟨fs4, g5, h⟩ := h
    refine va_calli (va_runV (As := []) (rest := [.int v1]) ⟨hx, hb, hml, hown, hts⟩ (cKXAL_size h) (gc_XRe_110 hts hN ⟨Nat.le_of_ble_eq_true rfl, Nat.le_of_ble_eq_true rfl⟩) (k_preV g5 rfl hP hS hA hK hN hE) rfl rfl hl.1 rfl (lv_room (Nat.le_of_ble_eq_true rfl)) dXRe_firstReady_7 ⟨Nat.le_of_ble_eq_true rfl, Nat.le_of_ble_eq_true rfl⟩) hS (fun _ _ q => q) (fun _ q => q) (fun r3 w_3 t H locs ht hvm h hP hz hk hS => ?_)
    rw [fxC, ht] at hP
    refine lv_icmp_ge (tgt := 39) hx hb dXRe_firstReady_10 (by decide) (fun c6 => ?_) (fun c6 => ?_)
    · replace h := h.1 c6
      refine lv_iconst (v := (-1)) hx hb dXRe_firstReady_39 (by decide) ?_
      exact W.iret hx hb hr (fun t ht hW => ⟨⟨_, _, rfl, h, by rw [fxC, ht]; exact hP⟩, hS.F ht⟩) hS.2.2 dXRe_firstReady_40 hlocks
    · replace h := h.2 c6
      refine lv_aload_n hx hb dXRe_firstReady_13 rfl (lv_at hl 0 rfl) ?_
      refine lv_aload_n hx hb dXRe_firstReady_14 rfl (lv_at hl 0 rfl) ?_
      obtain ⟨x7, g8, h⟩ := h
      refine kg_XRe_24 hx hb hown hts hN hK hP g8 dXRe_firstReady_15 ?_
      refine lv_iload_n hx hb dXRe_firstReady_18 rfl (lv_at hl 1 rfl) ?_
      obtain ⟨fs10, g11, h⟩ := h
      refine va_calle (va_runV (As := [.int v1]) (rest := [.ref v0]) ⟨hx, hb, hml, hown, hts⟩ (cKXAL_get h) (gc_XRe_113 hts hN ⟨Nat.le_of_ble_eq_true rfl, Nat.le_of_ble_eq_true rfl⟩) (k_preV g11 rfl hP hS hA hK hN hE) rfl rfl hl.1 rfl (lv_room (Nat.le_of_ble_eq_true rfl)) dXRe_firstReady_19 ⟨Nat.le_of_ble_eq_true rfl, Nat.le_of_ble_eq_true rfl⟩) hS (fun _ _ q => q) (fun _ q => q) (fun r9 w_9 t H locs ht hvm h hP hz hk hS => ?_)
      rw [fxC, ht] at hP
      obtain ⟨y12, e13, h⟩ := h
      subst e13
      obtain ⟨fs14, g15, h⟩ := h
      refine kcast hx hb hown (hts (.classLink RXRe 47 "HashLinkedWeb$Operation") (fx_m (by decide +kernel))) hN hK hP g15 dXRe_firstReady_22 ?_
      obtain ⟨fs17, g18, h⟩ := h
      refine va_calli (va_runV (As := [.ref y12]) (rest := []) ⟨hx, hb, hml, hown, hts⟩ (cKXRe_holdsLinks h) (gc_XRe_85 hts hN ⟨Nat.le_of_ble_eq_true rfl, Nat.le_of_ble_eq_true rfl⟩) (k_preV g18 rfl hP hS hA hK hN hE) rfl rfl hl.1 rfl (lv_room (Nat.le_of_ble_eq_true rfl)) dXRe_firstReady_25 ⟨Nat.le_of_ble_eq_true rfl, Nat.le_of_ble_eq_true rfl⟩) hS (fun _ _ q => q) (fun _ q => q) (fun r16 w_16 t H locs ht hvm h hP hz hk hS => ?_)
      rw [fxC, ht] at hP
      refine lv_if_eq (tgt := 33) hx hb dXRe_firstReady_28 (by decide) (fun c19 => ?_) (fun c19 => ?_)
      · replace h := h.1 c19
        refine lv_iinc (v := v1 + 1) (lv' := [(1, .int (v1 + 1)), (0, .ref v0)]) hx hb dXRe_firstReady_33 hl (k := 1) rfl rfl (by decide) rfl (fun ls hl => ?_)
        refine lv_goto (tgt := 2) hx hb dXRe_firstReady_36 (by decide) ?_
        exact hK2 w_16 v0 (v1 + 1) h H locs ls hP hS (lv_sub hl [1, 0] rfl)
      · replace h := h.2 c19
        refine lv_iload_n hx hb dXRe_firstReady_31 rfl (lv_at hl 1 rfl) ?_
        exact W.iret hx hb hr (fun t ht hW => ⟨⟨_, _, rfl, h, by rw [fxC, ht]; exact hP⟩, hS.F ht⟩) hS.2.2 dXRe_firstReady_32 hlocks
set_option maxRecDepth 100000 in
set_option maxHeartbeats 4000000 in
theorem sKXRe_firstReady_in {p : Program} {l : Launch} {e : Env} {s : State} {m : MethodId} {args : Array Value} {below : List Frame} {meth : Method} {c : Code} {D : va_G} {ca : Nat → Nat} {A : Nat → Prop} {post : Int32 → fh_T → Prop} (C0 : kCx p s m args meth c D ca A RXRe cXRe_firstReady 2 (some .int) "firstReady") : ∀ (w : fh_T) (a0 : Nat), wKXRe_firstReady post w a0 → ∀ (H : Heap) (locs : List Loc) (ls : Array Slot), fh_ok D ca A w H → va_S A s.heap H locs → lv_has ls 2 [(0, .ref a0)] → W p l e ({ frames := 3, cells := 0, slots := 0, locals := 65 } : Room) s m args below meth c H locs 0 0 (MQ below (va_Qi post (fxC (fh_ok D ca A)) A) args s 0 0 A) (F0 m 0 ls []) := by
  obtain ⟨hx, hb, hr, hml, hown, hts, hlocks, hK, hN, hE, hA, hin⟩ := id C0
  intro w a0 h H locs ls hP hS hl
  replace h : (∃ k, wKXRe_firstReady_2 post  k w a0 0) := h
  refine lv_iconst (v := 0) hx hb dXRe_firstReady_0 (by decide) ?_
  refine lv_istore_n (lv' := [(1, .int 0), (0, .ref a0)]) hx hb dXRe_firstReady_1 rfl hl (by decide) rfl (fun ls hl => ?_)
  obtain ⟨k, h⟩ := h
  exact sKXRe_firstReady_2  C0  k w a0 0 h H locs ls hP hS (lv_sub hl [1, 0] rfl)
set_option maxRecDepth 100000 in
set_option maxHeartbeats 4000000 in
theorem cKXRe_firstReady {l : Launch} {D : va_G} {ca : Nat → Nat} {A : Nat → Prop} {post : Int32 → fh_T → Prop} {w : fh_T} {a0 : Nat} (h : wKXRe_firstReady post w a0) : Met l yXRe_firstReady (.code yXRe_firstReady cXRe_firstReady 2 (some .int) :: lg_tbl) ({ frames := 3, cells := 0, slots := 0, locals := 65 } : Room) (va_Pc [.ref a0] (kB D ca A w)) (va_Qi post (fxC (fh_ok D ca A)) A) 0 0 A := by
  refine fx_start (by decide +kernel) (Nat.le_of_ble_eq_true rfl) ?_
  intro p e s m below meth c ls hx hb hr hml hown hts hlocks hnm hB hl
  exact sKXRe_firstReady_in ⟨hx, hb, hr, hml, hown, hts, hlocks, hB.2.2.1, hB.2.2.2.1, hB.2.2.2.2, hB.2.1, hnm⟩ w a0 h _ _ ls hB.1 va_S.rf hl
