noncomputable def wKXAs_bringHome_2 (post : fh_T → Prop) (n : Nat) : fh_T → Nat → Nat → Nat → Int32 → Prop := Nat.rec (motive := fun _ => fh_T → Nat → Nat → Nat → Int32 → Prop) (fun _ _ _ _ _ => False) (fun _ K2 w mc ms v0 v1 => (∃ x1, fh_g w v0 8 2 (.ref x1) ∧ (∃ x3, fh_g w x1 4 1 (.ref x3) ∧ (∃ x5, fh_g w x3 3 1 (.int x5) ∧ ((x5 ≤ v1 → (post w)) ∧ (¬ x5 ≤ v1 → (∃ x8, fh_g w v0 8 2 (.ref x8) ∧ (∃ x10, fh_g w x8 4 1 (.ref x10) ∧ (∃ x12, fh_g w x10 3 0 (.ref x12) ∧ (∃ n14 f15 y16, w x12 = some (.inl (0, n14, .inr (.inr (.inr (.inr f15))))) ∧ vp_in v1 n14 ∧ f15 (Int32.toNatClampNeg v1) = some y16 ∧ (∃ x20, fh_g w v0 8 4 (.long x20) ∧ (∃ x22, fh_g w y16 7 1 (.int x22) ∧ (wKXW_contains (fun r24 w_24 => ((r24 = 0 → (K2 w_24 mc ms v0 (v1 + 1))) ∧ (¬ r24 = 0 → (∃ x26, fh_g w_24 v0 8 1 (.ref x26) ∧ (∃ x28, fh_g w_24 y16 7 0 (.ref x28) ∧ (∃ fs31, w_24 x26 = some (.inr (4, fs31)) ∧ (∃ a33 b34 mc35 ms36, mc = mc35 + a33 ∧ ms = ms36 + b34 ∧ (wKXRe_welcome (fun r30 w_30 => (K2 w_30 mc35 ms36 v0 (v1 + 1))) w_24 a33 b34 x26 x28)))))))) w x20 x22))))))))))))) n
def wKXAs_bringHome (post : fh_T → Prop) (w : fh_T) (mc : Nat) (ms : Nat) (a0 : Nat) : Prop := (∃ k, wKXAs_bringHome_2 post  k w mc ms a0 0)
set_option maxRecDepth 100000 in
set_option maxHeartbeats 4000000 in
theorem sKXAs_bringHome_2 {p : Program} {l : Launch} {e : Env} {s : State} {m : MethodId} {args : Array Value} {below : List Frame} {meth : Method} {c : Code} {D : va_G} {ca : Nat → Nat} {A : Nat → Prop} {MC MS : Nat} {post : fh_T → Prop} (C0 : kCx p s m args meth c D ca A RXAs cXAs_bringHome 3 none "bringHome") : ∀ (n : Nat) (w : fh_T) (mc : Nat) (ms : Nat) (v0 : Nat) (v1 : Int32), wKXAs_bringHome_2 post  n w mc ms v0 v1 → ∀ (H : Heap) (locs : List Loc) (ls : Array Slot), fh_ok D ca A w H → va_S A s.heap H locs → lv_has ls 3 [(0, .ref v0), (1, .int v1)] → ∀ cells slots : Nat, cells + mc = MC → slots + ms = MS → W p l e ({ frames := 8, cells := MC, slots := MS, locals := 196 } : Room) s m args below meth c H locs cells slots (MQ below (va_Qv post (fxC (fh_ok D ca A)) A) args s MC MS A) (F0 m 2 ls []) := by
  obtain ⟨hx, hb, hr, hml, hown, hts, hlocks, hK, hN, hE, hA, hin⟩ := id C0
  intro n
  induction n with
  | zero => exact fun _ _ _ _ _ h => h.elim
  | succ n hK2 =>
    intro w mc ms v0 v1 h H locs ls hP hS hl cells slots hbc hbs
    replace h : (∃ x1, fh_g w v0 8 2 (.ref x1) ∧ (∃ x3, fh_g w x1 4 1 (.ref x3) ∧ (∃ x5, fh_g w x3 3 1 (.int x5) ∧ ((x5 ≤ v1 → (post w)) ∧ (¬ x5 ≤ v1 → (∃ x8, fh_g w v0 8 2 (.ref x8) ∧ (∃ x10, fh_g w x8 4 1 (.ref x10) ∧ (∃ x12, fh_g w x10 3 0 (.ref x12) ∧ (∃ n14 f15 y16, w x12 = some (.inl (0, n14, .inr (.inr (.inr (.inr f15))))) ∧ vp_in v1 n14 ∧ f15 (Int32.toNatClampNeg v1) = some y16 ∧ (∃ x20, fh_g w v0 8 4 (.long x20) ∧ (∃ x22, fh_g w y16 7 1 (.int x22) ∧ (wKXW_contains (fun r24 w_24 => ((r24 = 0 → ((wKXAs_bringHome_2 post  n) w_24 mc ms v0 (v1 + 1))) ∧ (¬ r24 = 0 → (∃ x26, fh_g w_24 v0 8 1 (.ref x26) ∧ (∃ x28, fh_g w_24 y16 7 0 (.ref x28) ∧ (∃ fs31, w_24 x26 = some (.inr (4, fs31)) ∧ (∃ a33 b34 mc35 ms36, mc = mc35 + a33 ∧ ms = ms36 + b34 ∧ (wKXRe_welcome (fun r30 w_30 => ((wKXAs_bringHome_2 post  n) w_30 mc35 ms36 v0 (v1 + 1))) w_24 a33 b34 x26 x28)))))))) w x20 x22)))))))))))) := h
    refine lv_iload_n hx hb dXAs_bringHome_2 rfl (lv_at hl 1 rfl) ?_
    refine lv_aload_n hx hb dXAs_bringHome_3 rfl (lv_at hl 0 rfl) ?_
    obtain ⟨x1, g2, h⟩ := h
    refine kg_XAs_17 hx hb hown hts hN hK hP g2 dXAs_bringHome_4 ?_
    obtain ⟨x3, g4, h⟩ := h
    refine kg_XAs_44 hx hb hown hts hN hK hP g4 dXAs_bringHome_7 ?_
    obtain ⟨x5, g6, h⟩ := h
    refine kg_XAs_48 hx hb hown hts hN hK hP g6 dXAs_bringHome_10 ?_
    refine lv_icmp_ge (tgt := 61) hx hb dXAs_bringHome_13 (by decide) (fun c7 => ?_) (fun c7 => ?_)
    · replace h := h.1 c7
      refine W.widen (k := MC) (n := MS) (by omega) (by omega) ?_
      exact W.vret hx hb hr (fun t ht hW => ⟨⟨_, rfl, h, by rw [fxC, ht]; exact hP⟩, hS.F ht⟩) hS.2.2 dXAs_bringHome_61 hlocks
    · replace h := h.2 c7
      refine lv_aload_n hx hb dXAs_bringHome_16 rfl (lv_at hl 0 rfl) ?_
      obtain ⟨x8, g9, h⟩ := h
      refine kg_XAs_17 hx hb hown hts hN hK hP g9 dXAs_bringHome_17 ?_
      obtain ⟨x10, g11, h⟩ := h
      refine kg_XAs_44 hx hb hown hts hN hK hP g11 dXAs_bringHome_20 ?_
      obtain ⟨x12, g13, h⟩ := h
      refine kg_XAs_54 hx hb hown hts hN hK hP g13 dXAs_bringHome_23 ?_
      refine lv_iload_n hx hb dXAs_bringHome_26 rfl (lv_at hl 1 rfl) ?_
      obtain ⟨n14, f15, y16, g17, g18, g19, h⟩ := h
      refine kaa 0 rfl rfl hx hb hK hP g17 g18 g19 dXAs_bringHome_27 ?_
      refine lv_astore_n (lv' := [(2, .ref y16), (0, .ref v0), (1, .int v1)]) hx hb dXAs_bringHome_28 rfl hl (by decide) rfl (fun ls hl => ?_)
      refine lv_aload_n hx hb dXAs_bringHome_29 rfl (lv_at hl 1 rfl) ?_
      obtain ⟨x20, g21, h⟩ := h
      refine kg_XAs_35 hx hb hown hts hN hK hP g21 dXAs_bringHome_30 ?_
      refine lv_aload_n hx hb dXAs_bringHome_33 rfl (lv_at hl 0 rfl) ?_
      obtain ⟨x22, g23, h⟩ := h
      refine kg_XAs_58 hx hb hown hts hN hK hP g23 dXAs_bringHome_34 ?_
      refine va_calli (va_runSN (As := [.long x20, .int x22]) (rest := []) ⟨hx, hb, hml, hown, hts⟩ (cKXW_contains h) (gc_XAs_63 hts hN ⟨Nat.le_of_ble_eq_true rfl, Nat.le_of_ble_eq_true rfl⟩) (k_preS hP hS hA hK hN hE) rfl rfl hl.1 rfl (lv_room (Nat.le_of_ble_eq_true rfl)) dXAs_bringHome_37 ⟨show cells + 0 ≤ MC by omega, show slots + 0 ≤ MS by omega⟩) hS (fun _ _ q => q) (fun _ q => q) (fun r24 w_24 t H locs ht hvm h hP hz hk hS => ?_)
      rw [fxC, ht] at hP
      refine W.cs (cells' := cells) (slots' := slots) rfl rfl ?_
      refine lv_if_eq (tgt := 55) hx hb dXAs_bringHome_40 (by decide) (fun c25 => ?_) (fun c25 => ?_)
      · replace h := h.1 c25
        refine lv_iinc (v := v1 + 1) (lv' := [(1, .int (v1 + 1)), (2, .ref y16), (0, .ref v0)]) hx hb dXAs_bringHome_55 hl (k := 2) rfl rfl (by decide) rfl (fun ls hl => ?_)
        refine lv_goto (tgt := 2) hx hb dXAs_bringHome_58 (by decide) ?_
        exact hK2 w_24 mc ms v0 (v1 + 1) h H locs ls hP hS (lv_sub hl [2, 0] rfl) _ _ hbc hbs
      · replace h := h.2 c25
        refine lv_aload_n hx hb dXAs_bringHome_43 rfl (lv_at hl 1 rfl) ?_
        obtain ⟨x26, g27, h⟩ := h
        refine kg_XAs_13 hx hb hown hts hN hK hP g27 dXAs_bringHome_44 ?_
        refine lv_aload_n hx hb dXAs_bringHome_47 rfl (lv_at hl 0 rfl) ?_
        obtain ⟨x28, g29, h⟩ := h
        refine kg_XAs_69 hx hb hown hts hN hK hP g29 dXAs_bringHome_48 ?_
        obtain ⟨fs31, g32, h⟩ := h
        obtain ⟨a33, b34, mc35, ms36, hm1, hm2, h⟩ := h
        refine va_calli (va_runV (As := [.ref x28]) (rest := []) ⟨hx, hb, hml, hown, hts⟩ (cKXRe_welcome h) (gc_XAs_73 hts hN ⟨Nat.le_of_ble_eq_true rfl, Nat.le_of_ble_eq_true rfl⟩) (k_preV g32 rfl hP hS hA hK hN hE) rfl rfl hl.1 rfl (lv_room (Nat.le_of_ble_eq_true rfl)) dXAs_bringHome_51 ⟨show cells + a33 ≤ MC by omega, show slots + b34 ≤ MS by omega⟩) hS (fun _ _ q => q) (fun _ q => q) (fun r30 w_30 t H locs ht hvm h hP hz hk hS => ?_)
        rw [fxC, ht] at hP
        refine W.cs (cells' := cells + a33) (slots' := slots + b34) rfl rfl ?_
        replace hbc : cells + a33 + mc35 = MC := by omega
        replace hbs : slots + b34 + ms36 = MS := by omega
        refine lv_pop hx hb dXAs_bringHome_54 rfl ?_
        refine lv_iinc (v := v1 + 1) (lv' := [(1, .int (v1 + 1)), (2, .ref y16), (0, .ref v0)]) hx hb dXAs_bringHome_55 hl (k := 2) rfl rfl (by decide) rfl (fun ls hl => ?_)
        refine lv_goto (tgt := 2) hx hb dXAs_bringHome_58 (by decide) ?_
        exact hK2 w_30 mc35 ms36 v0 (v1 + 1) h H locs ls hP hS (lv_sub hl [2, 0] rfl) _ _ hbc hbs
set_option maxRecDepth 100000 in
set_option maxHeartbeats 4000000 in
theorem sKXAs_bringHome_in {p : Program} {l : Launch} {e : Env} {s : State} {m : MethodId} {args : Array Value} {below : List Frame} {meth : Method} {c : Code} {D : va_G} {ca : Nat → Nat} {A : Nat → Prop} {MC MS : Nat} {post : fh_T → Prop} (C0 : kCx p s m args meth c D ca A RXAs cXAs_bringHome 3 none "bringHome") : ∀ (w : fh_T) (mc : Nat) (ms : Nat) (a0 : Nat), wKXAs_bringHome post w mc ms a0 → ∀ (H : Heap) (locs : List Loc) (ls : Array Slot), fh_ok D ca A w H → va_S A s.heap H locs → lv_has ls 3 [(0, .ref a0)] → ∀ cells slots : Nat, cells + mc = MC → slots + ms = MS → W p l e ({ frames := 8, cells := MC, slots := MS, locals := 196 } : Room) s m args below meth c H locs cells slots (MQ below (va_Qv post (fxC (fh_ok D ca A)) A) args s MC MS A) (F0 m 0 ls []) := by
  obtain ⟨hx, hb, hr, hml, hown, hts, hlocks, hK, hN, hE, hA, hin⟩ := id C0
  intro w mc ms a0 h H locs ls hP hS hl cells slots hbc hbs
  replace h : (∃ k, wKXAs_bringHome_2 post  k w mc ms a0 0) := h
  refine lv_iconst (v := 0) hx hb dXAs_bringHome_0 (by decide) ?_
  refine lv_istore_n (lv' := [(1, .int 0), (0, .ref a0)]) hx hb dXAs_bringHome_1 rfl hl (by decide) rfl (fun ls hl => ?_)
  obtain ⟨k, h⟩ := h
  exact sKXAs_bringHome_2  C0  k w mc ms a0 0 h H locs ls hP hS (lv_sub hl [1, 0] rfl) _ _ hbc hbs
set_option maxRecDepth 100000 in
set_option maxHeartbeats 4000000 in
theorem cKXAs_bringHome {l : Launch} {D : va_G} {ca : Nat → Nat} {A : Nat → Prop} {post : fh_T → Prop} {w : fh_T} {mc : Nat} {ms : Nat} {a0 : Nat} (h : wKXAs_bringHome post w mc ms a0) : Met l yXAs_bringHome (.code yXAs_bringHome cXAs_bringHome 3 none :: lg_tbl) ({ frames := 8, cells := mc, slots := ms, locals := 196 } : Room) (va_Pc [.ref a0] (kB D ca A w)) (va_Qv post (fxC (fh_ok D ca A)) A) mc ms A := by
  refine fx_start (by decide +kernel) (Nat.le_of_ble_eq_true rfl) ?_
  intro p e s m below meth c ls hx hb hr hml hown hts hlocks hnm hB hl
  exact sKXAs_bringHome_in ⟨hx, hb, hr, hml, hown, hts, hlocks, hB.2.2.1, hB.2.2.2.1, hB.2.2.2.2, hB.2.1, hnm⟩ w mc ms a0 h _ _ ls hB.1 va_S.rf hl 0 0 (Nat.zero_add _) (Nat.zero_add _)
def wKXW_meet_103 (post : Int32 → fh_T → Prop) (w : fh_T) (mc : Nat) (ms : Nat) (v5 : Nat) (v6 : Nat) (v7 : Int32) : Prop := (∃ fs41, w v5 = some (.inr (8, fs41)) ∧ (∃ a43 b44 mc45 ms46, mc = mc45 + a43 ∧ ms = ms46 + b44 ∧ (wKXAs_bringHome (fun w_40 => (∃ fs48, w_40 v6 = some (.inr (8, fs48)) ∧ (∃ a50 b51 mc52 ms53, mc45 = mc52 + a50 ∧ ms46 = ms53 + b51 ∧ (wKXAs_bringHome (fun w_47 => (post v7 w_47)) w_40 a50 b51 v6)))) w a43 b44 v5)))
def wKXW_meet_87 (post : Int32 → fh_T → Prop) (K64 : fh_T → Nat → Nat → Nat → Nat → Int32 → Prop) (w : fh_T) (mc : Nat) (ms : Nat) (v5 : Nat) (v6 : Nat) (v7 : Int32) : Prop := (∃ fs55, w v5 = some (.inr (8, fs55)) ∧ (wKXAs_ask (fun w_54 => (∃ fs58, w_54 v6 = some (.inr (8, fs58)) ∧ (wKXAs_ask (fun w_57 => (K64 w_57 mc ms v5 v6 (v7 + 1))) w_54 v6))) w v5))
noncomputable def wKXW_meet_64 (post : Int32 → fh_T → Prop) (n : Nat) : fh_T → Nat → Nat → Nat → Nat → Int32 → Prop := Nat.rec (motive := fun _ => fh_T → Nat → Nat → Nat → Nat → Int32 → Prop) (fun _ _ _ _ _ _ => False) (fun _ K64 w mc ms v5 v6 v7 => ((40 ≤ v7 → (wKXW_meet_103 post  w mc ms v5 v6 v7)) ∧ (¬ 40 ≤ v7 → (∃ fs33, w v5 = some (.inr (8, fs33)) ∧ (wKXAs_isOpen (fun r32 w_32 => ((¬ r32 = 0 → (wKXW_meet_87 post K64 w_32 mc ms v5 v6 v7)) ∧ (r32 = 0 → (∃ fs37, w_32 v6 = some (.inr (8, fs37)) ∧ (wKXAs_isOpen (fun r36 w_36 => ((r36 = 0 → (wKXW_meet_103 post  w_36 mc ms v5 v6 v7)) ∧ (¬ r36 = 0 → (wKXW_meet_87 post K64 w_36 mc ms v5 v6 v7)))) w_32 v6))))) w v5))))) n
def wKXW_meet (post : Int32 → fh_T → Prop) (w : fh_T) (mc : Nat) (ms : Nat) (a0 : Nat) (a1 : Int32) (a2 : Int32) : Prop := (∃ fs2, w a0 = some (.inr (1, fs2)) ∧ (wKXW_replicaAt (fun r1 w_1 => ((r1 = none → (∃ fs5, w_1 a0 = some (.inr (1, fs5)) ∧ (wKXW_replicaAt (fun r4 w_4 => ((r4 = none → (post (-1) w_4)) ∧ (∀ y7, r4 = some y7 → (post (-1) w_4)))) w_1 a0 a2))) ∧ (∀ y9, r1 = some y9 → (∃ fs11, w_1 a0 = some (.inr (1, fs11)) ∧ (wKXW_replicaAt (fun r10 w_10 => ((r10 = none → (post (-1) w_10)) ∧ (∀ y13, r10 = some y13 → ((¬ a1 = a2 → (∃ mc17 ms18, mc = mc17 + 1 ∧ ms = ms18 + 5 ∧ ∀ q15, w_10 q15 = none → ∀ w16, w16 = fh_up w_10 q15 (.inr (8, [.null, .null, .null, .long 0, .long 0])) → (∃ x19, fh_g w16 a0 1 0 (.ref x19) ∧ (wKXAs_init (fun w_21 => (∃ mc24 ms25, mc17 = mc24 + 1 ∧ ms18 = ms25 + 5 ∧ ∀ q22, w_21 q22 = none → ∀ w23, w23 = fh_up w_21 q22 (.inr (8, [.null, .null, .null, .long 0, .long 0])) → (∃ x26, fh_g w23 a0 1 0 (.ref x26) ∧ (wKXAs_init (fun w_28 => (∃ k, wKXW_meet_64 post  k w_28 mc24 ms25 q15 q22 0)) w23 q22 x26 y13 y9)))) w16 q15 x19 y9 y13)))) ∧ (a1 = a2 → (post (-1) w_10)))))) w_1 a0 a2))))) w a0 a1))
set_option maxRecDepth 100000 in
set_option maxHeartbeats 4000000 in
theorem sKXW_meet_103 {p : Program} {l : Launch} {e : Env} {s : State} {m : MethodId} {args : Array Value} {below : List Frame} {meth : Method} {c : Code} {D : va_G} {ca : Nat → Nat} {A : Nat → Prop} {MC MS : Nat} {post : Int32 → fh_T → Prop} (C0 : kCx p s m args meth c D ca A RXW cXW_meet 8 (some .int) "meet") : ∀ (w : fh_T) (mc : Nat) (ms : Nat) (v5 : Nat) (v6 : Nat) (v7 : Int32), wKXW_meet_103 post  w mc ms v5 v6 v7 → ∀ (H : Heap) (locs : List Loc) (ls : Array Slot), fh_ok D ca A w H → va_S A s.heap H locs → lv_has ls 8 [(5, .ref v5), (6, .ref v6), (7, .int v7)] → ∀ cells slots : Nat, cells + mc = MC → slots + ms = MS → W p l e ({ frames := 9, cells := MC, slots := MS, locals := 218 } : Room) s m args below meth c H locs cells slots (MQ below (va_Qi post (fxC (fh_ok D ca A)) A) args s MC MS A) (F0 m 103 ls []) := by
  obtain ⟨hx, hb, hr, hml, hown, hts, hlocks, hK, hN, hE, hA, hin⟩ := id C0
  intro w mc ms v5 v6 v7 h H locs ls hP hS hl cells slots hbc hbs
  replace h : (∃ fs41, w v5 = some (.inr (8, fs41)) ∧ (∃ a43 b44 mc45 ms46, mc = mc45 + a43 ∧ ms = ms46 + b44 ∧ (wKXAs_bringHome (fun w_40 => (∃ fs48, w_40 v6 = some (.inr (8, fs48)) ∧ (∃ a50 b51 mc52 ms53, mc45 = mc52 + a50 ∧ ms46 = ms53 + b51 ∧ (wKXAs_bringHome (fun w_47 => (post v7 w_47)) w_40 a50 b51 v6)))) w a43 b44 v5))) := h
  refine lv_aload hx hb dXW_meet_103 (lv_at hl 0 rfl) ?_
  obtain ⟨fs41, g42, h⟩ := h
  obtain ⟨a43, b44, mc45, ms46, hm1, hm2, h⟩ := h
  refine va_callv (va_runV (As := []) (rest := []) ⟨hx, hb, hml, hown, hts⟩ (cKXAs_bringHome h) (gc_XW_93 hts hN ⟨Nat.le_of_ble_eq_true rfl, Nat.le_of_ble_eq_true rfl⟩) (k_preV g42 rfl hP hS hA hK hN hE) rfl rfl hl.1 rfl (lv_room (Nat.le_of_ble_eq_true rfl)) dXW_meet_105 ⟨show cells + a43 ≤ MC by omega, show slots + b44 ≤ MS by omega⟩) hS (fun _ _ q => q) (fun _ q => q) (fun w_40 t H locs ht hvm h hP hz hk hS => ?_)
  rw [fxC, ht] at hP
  refine W.cs (cells' := cells + a43) (slots' := slots + b44) rfl rfl ?_
  replace hbc : cells + a43 + mc45 = MC := by omega
  replace hbs : slots + b44 + ms46 = MS := by omega
  refine lv_aload hx hb dXW_meet_108 (lv_at hl 1 rfl) ?_
  obtain ⟨fs48, g49, h⟩ := h
  obtain ⟨a50, b51, mc52, ms53, hm1, hm2, h⟩ := h
  refine va_callv (va_runV (As := []) (rest := []) ⟨hx, hb, hml, hown, hts⟩ (cKXAs_bringHome h) (gc_XW_93 hts hN ⟨Nat.le_of_ble_eq_true rfl, Nat.le_of_ble_eq_true rfl⟩) (k_preV g49 rfl hP hS hA hK hN hE) rfl rfl hl.1 rfl (lv_room (Nat.le_of_ble_eq_true rfl)) dXW_meet_110 ⟨show cells + a43 + a50 ≤ MC by omega, show slots + b44 + b51 ≤ MS by omega⟩) hS (fun _ _ q => q) (fun _ q => q) (fun w_47 t H locs ht hvm h hP hz hk hS => ?_)
  rw [fxC, ht] at hP
  refine W.cs (cells' := cells + a43 + a50) (slots' := slots + b44 + b51) rfl rfl ?_
  replace hbc : cells + a43 + a50 + mc52 = MC := by omega
  replace hbs : slots + b44 + b51 + ms53 = MS := by omega
  refine lv_iload hx hb dXW_meet_113 (lv_at hl 2 rfl) ?_
  refine W.widen (k := MC) (n := MS) (by omega) (by omega) ?_
  exact W.iret hx hb hr (fun t ht hW => ⟨⟨_, _, rfl, h, by rw [fxC, ht]; exact hP⟩, hS.F ht⟩) hS.2.2 dXW_meet_115 hlocks
set_option maxRecDepth 100000 in
set_option maxHeartbeats 4000000 in
theorem sKXW_meet_87 {p : Program} {l : Launch} {e : Env} {s : State} {m : MethodId} {args : Array Value} {below : List Frame} {meth : Method} {c : Code} {D : va_G} {ca : Nat → Nat} {A : Nat → Prop} {MC MS : Nat} {post : Int32 → fh_T → Prop} (C0 : kCx p s m args meth c D ca A RXW cXW_meet 8 (some .int) "meet") {K64 : fh_T → Nat → Nat → Nat → Nat → Int32 → Prop} (hK64 : ∀ (w : fh_T) (mc : Nat) (ms : Nat) (v5 : Nat) (v6 : Nat) (v7 : Int32), K64 w mc ms v5 v6 v7 → ∀ (H : Heap) (locs : List Loc) (ls : Array Slot), fh_ok D ca A w H → va_S A s.heap H locs → lv_has ls 8 [(5, .ref v5), (6, .ref v6), (7, .int v7)] → ∀ cells slots : Nat, cells + mc = MC → slots + ms = MS → W p l e ({ frames := 9, cells := MC, slots := MS, locals := 218 } : Room) s m args below meth c H locs cells slots (MQ below (va_Qi post (fxC (fh_ok D ca A)) A) args s MC MS A) (F0 m 64 ls [])) : ∀ (w : fh_T) (mc : Nat) (ms : Nat) (v5 : Nat) (v6 : Nat) (v7 : Int32), wKXW_meet_87 post K64 w mc ms v5 v6 v7 → ∀ (H : Heap) (locs : List Loc) (ls : Array Slot), fh_ok D ca A w H → va_S A s.heap H locs → lv_has ls 8 [(5, .ref v5), (6, .ref v6), (7, .int v7)] → ∀ cells slots : Nat, cells + mc = MC → slots + ms = MS → W p l e ({ frames := 9, cells := MC, slots := MS, locals := 218 } : Room) s m args below meth c H locs cells slots (MQ below (va_Qi post (fxC (fh_ok D ca A)) A) args s MC MS A) (F0 m 87 ls []) := by
  obtain ⟨hx, hb, hr, hml, hown, hts, hlocks, hK, hN, hE, hA, hin⟩ := id C0
  intro w mc ms v5 v6 v7 h H locs ls hP hS hl cells slots hbc hbs
  replace h : (∃ fs55, w v5 = some (.inr (8, fs55)) ∧ (wKXAs_ask (fun w_54 => (∃ fs58, w_54 v6 = some (.inr (8, fs58)) ∧ (wKXAs_ask (fun w_57 => (K64 w_57 mc ms v5 v6 (v7 + 1))) w_54 v6))) w v5)) := h
  refine lv_aload hx hb dXW_meet_87 (lv_at hl 0 rfl) ?_
  obtain ⟨fs55, g56, h⟩ := h
  refine va_callv (va_runV (As := []) (rest := []) ⟨hx, hb, hml, hown, hts⟩ (cKXAs_ask h) (gc_XW_90 hts hN ⟨Nat.le_of_ble_eq_true rfl, Nat.le_of_ble_eq_true rfl⟩) (k_preV g56 rfl hP hS hA hK hN hE) rfl rfl hl.1 rfl (lv_room (Nat.le_of_ble_eq_true rfl)) dXW_meet_89 ⟨show cells + 0 ≤ MC by omega, show slots + 0 ≤ MS by omega⟩) hS (fun _ _ q => q) (fun _ q => q) (fun w_54 t H locs ht hvm h hP hz hk hS => ?_)
  rw [fxC, ht] at hP
  refine W.cs (cells' := cells) (slots' := slots) rfl rfl ?_
  refine lv_aload hx hb dXW_meet_92 (lv_at hl 1 rfl) ?_
  obtain ⟨fs58, g59, h⟩ := h
  refine va_callv (va_runV (As := []) (rest := []) ⟨hx, hb, hml, hown, hts⟩ (cKXAs_ask h) (gc_XW_90 hts hN ⟨Nat.le_of_ble_eq_true rfl, Nat.le_of_ble_eq_true rfl⟩) (k_preV g59 rfl hP hS hA hK hN hE) rfl rfl hl.1 rfl (lv_room (Nat.le_of_ble_eq_true rfl)) dXW_meet_94 ⟨show cells + 0 ≤ MC by omega, show slots + 0 ≤ MS by omega⟩) hS (fun _ _ q => q) (fun _ q => q) (fun w_57 t H locs ht hvm h hP hz hk hS => ?_)
  rw [fxC, ht] at hP
  refine W.cs (cells' := cells) (slots' := slots) rfl rfl ?_
  refine lv_iinc (v := v7 + 1) (lv' := [(7, .int (v7 + 1)), (5, .ref v5), (6, .ref v6)]) hx hb dXW_meet_97 hl (k := 2) rfl rfl (by decide) rfl (fun ls hl => ?_)
  refine lv_goto (tgt := 64) hx hb dXW_meet_100 (by decide) ?_
  exact hK64 w_57 mc ms v5 v6 (v7 + 1) h H locs ls hP hS (lv_sub hl [1, 2, 0] rfl) _ _ hbc hbs
set_option maxRecDepth 100000 in
set_option maxHeartbeats 4000000 in
theorem sKXW_meet_64 {p : Program} {l : Launch} {e : Env} {s : State} {m : MethodId} {args : Array Value} {below : List Frame} {meth : Method} {c : Code} {D : va_G} {ca : Nat → Nat} {A : Nat → Prop} {MC MS : Nat} {post : Int32 → fh_T → Prop} (C0 : kCx p s m args meth c D ca A RXW cXW_meet 8 (some .int) "meet") : ∀ (n : Nat) (w : fh_T) (mc : Nat) (ms : Nat) (v5 : Nat) (v6 : Nat) (v7 : Int32), wKXW_meet_64 post  n w mc ms v5 v6 v7 → ∀ (H : Heap) (locs : List Loc) (ls : Array Slot), fh_ok D ca A w H → va_S A s.heap H locs → lv_has ls 8 [(5, .ref v5), (6, .ref v6), (7, .int v7)] → ∀ cells slots : Nat, cells + mc = MC → slots + ms = MS → W p l e ({ frames := 9, cells := MC, slots := MS, locals := 218 } : Room) s m args below meth c H locs cells slots (MQ below (va_Qi post (fxC (fh_ok D ca A)) A) args s MC MS A) (F0 m 64 ls []) := by
  obtain ⟨hx, hb, hr, hml, hown, hts, hlocks, hK, hN, hE, hA, hin⟩ := id C0
  intro n
  induction n with
  | zero => exact fun _ _ _ _ _ _ h => h.elim
  | succ n hK64 =>
    intro w mc ms v5 v6 v7 h H locs ls hP hS hl cells slots hbc hbs
    replace h : ((40 ≤ v7 → (wKXW_meet_103 post  w mc ms v5 v6 v7)) ∧ (¬ 40 ≤ v7 → (∃ fs33, w v5 = some (.inr (8, fs33)) ∧ (wKXAs_isOpen (fun r32 w_32 => ((¬ r32 = 0 → (wKXW_meet_87 post (wKXW_meet_64 post  n) w_32 mc ms v5 v6 v7)) ∧ (r32 = 0 → (∃ fs37, w_32 v6 = some (.inr (8, fs37)) ∧ (wKXAs_isOpen (fun r36 w_36 => ((r36 = 0 → (wKXW_meet_103 post  w_36 mc ms v5 v6 v7)) ∧ (¬ r36 = 0 → (wKXW_meet_87 post (wKXW_meet_64 post  n) w_36 mc ms v5 v6 v7)))) w_32 v6))))) w v5)))) := h
    refine lv_iload hx hb dXW_meet_64 (lv_at hl 2 rfl) ?_
    refine lv_bipush (v := 40) hx hb dXW_meet_66 (by decide) ?_
    refine lv_icmp_ge (tgt := 103) hx hb dXW_meet_68 (by decide) (fun c31 => ?_) (fun c31 => ?_)
    · replace h := h.1 c31
      exact sKXW_meet_103  C0  w mc ms v5 v6 v7 h H locs ls hP hS (lv_sub hl [0, 1, 2] rfl) _ _ hbc hbs
    · replace h := h.2 c31
      refine lv_aload hx hb dXW_meet_71 (lv_at hl 0 rfl) ?_
      obtain ⟨fs33, g34, h⟩ := h
      refine va_calli (va_runV (As := []) (rest := []) ⟨hx, hb, hml, hown, hts⟩ (cKXAs_isOpen h) (gc_XW_86 hts hN ⟨Nat.le_of_ble_eq_true rfl, Nat.le_of_ble_eq_true rfl⟩) (k_preV g34 rfl hP hS hA hK hN hE) rfl rfl hl.1 rfl (lv_room (Nat.le_of_ble_eq_true rfl)) dXW_meet_73 ⟨show cells + 0 ≤ MC by omega, show slots + 0 ≤ MS by omega⟩) hS (fun _ _ q => q) (fun _ q => q) (fun r32 w_32 t H locs ht hvm h hP hz hk hS => ?_)
      rw [fxC, ht] at hP
      refine W.cs (cells' := cells) (slots' := slots) rfl rfl ?_
      refine lv_if_ne (tgt := 87) hx hb dXW_meet_76 (by decide) (fun c35 => ?_) (fun c35 => ?_)
      · replace h := h.1 c35
        exact sKXW_meet_87  C0 hK64 w_32 mc ms v5 v6 v7 h H locs ls hP hS (lv_sub hl [0, 1, 2] rfl) _ _ hbc hbs
      · replace h := h.2 c35
        refine lv_aload hx hb dXW_meet_79 (lv_at hl 1 rfl) ?_
        obtain ⟨fs37, g38, h⟩ := h
        refine va_calli (va_runV (As := []) (rest := []) ⟨hx, hb, hml, hown, hts⟩ (cKXAs_isOpen h) (gc_XW_86 hts hN ⟨Nat.le_of_ble_eq_true rfl, Nat.le_of_ble_eq_true rfl⟩) (k_preV g38 rfl hP hS hA hK hN hE) rfl rfl hl.1 rfl (lv_room (Nat.le_of_ble_eq_true rfl)) dXW_meet_81 ⟨show cells + 0 ≤ MC by omega, show slots + 0 ≤ MS by omega⟩) hS (fun _ _ q => q) (fun _ q => q) (fun r36 w_36 t H locs ht hvm h hP hz hk hS => ?_)
        rw [fxC, ht] at hP
        refine W.cs (cells' := cells) (slots' := slots) rfl rfl ?_
        refine lv_if_eq (tgt := 103) hx hb dXW_meet_84 (by decide) (fun c39 => ?_) (fun c39 => ?_)
        · replace h := h.1 c39
          exact sKXW_meet_103  C0  w_36 mc ms v5 v6 v7 h H locs ls hP hS (lv_sub hl [0, 1, 2] rfl) _ _ hbc hbs
        · replace h := h.2 c39
          exact sKXW_meet_87  C0 hK64 w_36 mc ms v5 v6 v7 h H locs ls hP hS (lv_sub hl [0, 1, 2] rfl) _ _ hbc hbs
set_option maxRecDepth 100000 in
set_option maxHeartbeats 4000000 in
theorem sKXW_meet_in {p : Program} {l : Launch} {e : Env} {s : State} {m : MethodId} {args : Array Value} {below : List Frame} {meth : Method} {c : Code} {D : va_G} {ca : Nat → Nat} {A : Nat → Prop} {MC MS : Nat} {post : Int32 → fh_T → Prop} (C0 : kCx p s m args meth c D ca A RXW cXW_meet 8 (some .int) "meet") : ∀ (w : fh_T) (mc : Nat) (ms : Nat) (a0 : Nat) (a1 : Int32) (a2 : Int32), wKXW_meet post w mc ms a0 a1 a2 → ∀ (H : Heap) (locs : List Loc) (ls : Array Slot), fh_ok D ca A w H → va_S A s.heap H locs → lv_has ls 8 [(0, .ref a0), (1, .int a1), (2, .int a2)] → ∀ cells slots : Nat, cells + mc = MC → slots + ms = MS → W p l e ({ frames := 9, cells := MC, slots := MS, locals := 218 } : Room) s m args below meth c H locs cells slots (MQ below (va_Qi post (fxC (fh_ok D ca A)) A) args s MC MS A) (F0 m 0 ls []) := by
  obtain ⟨hx, hb, hr, hml, hown, hts, hlocks, hK, hN, hE, hA, hin⟩ := id C0
  intro w mc ms a0 a1 a2 h H locs ls hP hS hl cells slots hbc hbs
  replace h : (∃ fs2, w a0 = some (.inr (1, fs2)) ∧ (wKXW_replicaAt (fun r1 w_1 => ((r1 = none → (∃ fs5, w_1 a0 = some (.inr (1, fs5)) ∧ (wKXW_replicaAt (fun r4 w_4 => ((r4 = none → (post (-1) w_4)) ∧ (∀ y7, r4 = some y7 → (post (-1) w_4)))) w_1 a0 a2))) ∧ (∀ y9, r1 = some y9 → (∃ fs11, w_1 a0 = some (.inr (1, fs11)) ∧ (wKXW_replicaAt (fun r10 w_10 => ((r10 = none → (post (-1) w_10)) ∧ (∀ y13, r10 = some y13 → ((¬ a1 = a2 → (∃ mc17 ms18, mc = mc17 + 1 ∧ ms = ms18 + 5 ∧ ∀ q15, w_10 q15 = none → ∀ w16, w16 = fh_up w_10 q15 (.inr (8, [.null, .null, .null, .long 0, .long 0])) → (∃ x19, fh_g w16 a0 1 0 (.ref x19) ∧ (wKXAs_init (fun w_21 => (∃ mc24 ms25, mc17 = mc24 + 1 ∧ ms18 = ms25 + 5 ∧ ∀ q22, w_21 q22 = none → ∀ w23, w23 = fh_up w_21 q22 (.inr (8, [.null, .null, .null, .long 0, .long 0])) → (∃ x26, fh_g w23 a0 1 0 (.ref x26) ∧ (wKXAs_init (fun w_28 => (∃ k, wKXW_meet_64 post  k w_28 mc24 ms25 q15 q22 0)) w23 q22 x26 y13 y9)))) w16 q15 x19 y9 y13)))) ∧ (a1 = a2 → (post (-1) w_10)))))) w_1 a0 a2))))) w a0 a1)) := h
  refine lv_aload_n hx hb dXW_meet_0 rfl (lv_at hl 0 rfl) ?_
  refine lv_iload_n hx hb dXW_meet_1 rfl (lv_at hl 1 rfl) ?_
  obtain ⟨fs2, g3, h⟩ := h
  refine va_calle (va_runV (As := [.int a1]) (rest := []) ⟨hx, hb, hml, hown, hts⟩ (cKXW_replicaAt h) (gc_XW_35 hts hN ⟨Nat.le_of_ble_eq_true rfl, Nat.le_of_ble_eq_true rfl⟩) (k_preV g3 rfl hP hS hA hK hN hE) rfl rfl hl.1 rfl (lv_room (Nat.le_of_ble_eq_true rfl)) dXW_meet_2 ⟨show cells + 0 ≤ MC by omega, show slots + 0 ≤ MS by omega⟩) hS (fun _ _ q => q) (fun _ q => q) (fun r1 w_1 t H locs ht hvm h hP hz hk hS => ?_)
  rw [fxC, ht] at hP
  refine W.cs (cells' := cells) (slots' := slots) rfl rfl ?_
  rcases e30 : r1 with _ | y9
  · replace h := h.1 e30
    subst e30
    refine lv_astore_nN (lv' := [(3, .null), (0, .ref a0), (1, .int a1), (2, .int a2)]) hx hb dXW_meet_5 rfl hl (by decide) rfl (fun ls hl => ?_)
    refine lv_aload_n hx hb dXW_meet_6 rfl (lv_at hl 1 rfl) ?_
    refine lv_iload_n hx hb dXW_meet_7 rfl (lv_at hl 3 rfl) ?_
    obtain ⟨fs5, g6, h⟩ := h
    refine va_calle (va_runV (As := [.int a2]) (rest := []) ⟨hx, hb, hml, hown, hts⟩ (cKXW_replicaAt h) (gc_XW_35 hts hN ⟨Nat.le_of_ble_eq_true rfl, Nat.le_of_ble_eq_true rfl⟩) (k_preV g6 rfl hP hS hA hK hN hE) rfl rfl hl.1 rfl (lv_room (Nat.le_of_ble_eq_true rfl)) dXW_meet_8 ⟨show cells + 0 ≤ MC by omega, show slots + 0 ≤ MS by omega⟩) hS (fun _ _ q => q) (fun _ q => q) (fun r4 w_4 t H locs ht hvm h hP hz hk hS => ?_)
    rw [fxC, ht] at hP
    refine W.cs (cells' := cells) (slots' := slots) rfl rfl ?_
    rcases e8 : r4 with _ | y7
    · replace h := h.1 e8
      subst e8
      refine lv_astoreN (lv' := [(4, .null), (3, .null), (0, .ref a0), (1, .int a1), (2, .int a2)]) hx hb dXW_meet_11 hl (by decide) rfl (fun ls hl => ?_)
      refine lv_aload_nN hx hb dXW_meet_13 rfl (lv_at hl 1 rfl) ?_
      refine lv_ifnullN (tgt := 27) hx hb dXW_meet_14 (by decide) ?_
      refine lv_iconst (v := (-1)) hx hb dXW_meet_27 (by decide) ?_
      refine W.widen (k := MC) (n := MS) (by omega) (by omega) ?_
      exact W.iret hx hb hr (fun t ht hW => ⟨⟨_, _, rfl, h, by rw [fxC, ht]; exact hP⟩, hS.F ht⟩) hS.2.2 dXW_meet_28 hlocks
    · replace h := h.2 y7 e8
      subst e8
      refine lv_astore (lv' := [(4, .ref y7), (3, .null), (0, .ref a0), (1, .int a1), (2, .int a2)]) hx hb dXW_meet_11 hl (by decide) rfl (fun ls hl => ?_)
      refine lv_aload_nN hx hb dXW_meet_13 rfl (lv_at hl 1 rfl) ?_
      refine lv_ifnullN (tgt := 27) hx hb dXW_meet_14 (by decide) ?_
      refine lv_iconst (v := (-1)) hx hb dXW_meet_27 (by decide) ?_
      refine W.widen (k := MC) (n := MS) (by omega) (by omega) ?_
      exact W.iret hx hb hr (fun t ht hW => ⟨⟨_, _, rfl, h, by rw [fxC, ht]; exact hP⟩, hS.F ht⟩) hS.2.2 dXW_meet_28 hlocks
  · replace h := h.2 y9 e30
    subst e30
    refine lv_astore_n (lv' := [(3, .ref y9), (0, .ref a0), (1, .int a1), (2, .int a2)]) hx hb dXW_meet_5 rfl hl (by decide) rfl (fun ls hl => ?_)
    refine lv_aload_n hx hb dXW_meet_6 rfl (lv_at hl 1 rfl) ?_
    refine lv_iload_n hx hb dXW_meet_7 rfl (lv_at hl 3 rfl) ?_
    obtain ⟨fs11, g12, h⟩ := h
    refine va_calle (va_runV (As := [.int a2]) (rest := []) ⟨hx, hb, hml, hown, hts⟩ (cKXW_replicaAt h) (gc_XW_35 hts hN ⟨Nat.le_of_ble_eq_true rfl, Nat.le_of_ble_eq_true rfl⟩) (k_preV g12 rfl hP hS hA hK hN hE) rfl rfl hl.1 rfl (lv_room (Nat.le_of_ble_eq_true rfl)) dXW_meet_8 ⟨show cells + 0 ≤ MC by omega, show slots + 0 ≤ MS by omega⟩) hS (fun _ _ q => q) (fun _ q => q) (fun r10 w_10 t H locs ht hvm h hP hz hk hS => ?_)
    rw [fxC, ht] at hP
    refine W.cs (cells' := cells) (slots' := slots) rfl rfl ?_
    rcases e29 : r10 with _ | y13
    · replace h := h.1 e29
      subst e29
      refine lv_astoreN (lv' := [(4, .null), (3, .ref y9), (0, .ref a0), (1, .int a1), (2, .int a2)]) hx hb dXW_meet_11 hl (by decide) rfl (fun ls hl => ?_)
      refine lv_aload_n hx hb dXW_meet_13 rfl (lv_at hl 1 rfl) ?_
      refine lv_ifnull hx hb dXW_meet_14 ?_
      refine lv_aloadN hx hb dXW_meet_17 (lv_at hl 0 rfl) ?_
      refine lv_ifnullN (tgt := 27) hx hb dXW_meet_19 (by decide) ?_
      refine lv_iconst (v := (-1)) hx hb dXW_meet_27 (by decide) ?_
      refine W.widen (k := MC) (n := MS) (by omega) (by omega) ?_
      exact W.iret hx hb hr (fun t ht hW => ⟨⟨_, _, rfl, h, by rw [fxC, ht]; exact hP⟩, hS.F ht⟩) hS.2.2 dXW_meet_28 hlocks
    · replace h := h.2 y13 e29
      subst e29
      refine lv_astore (lv' := [(4, .ref y13), (3, .ref y9), (0, .ref a0), (1, .int a1), (2, .int a2)]) hx hb dXW_meet_11 hl (by decide) rfl (fun ls hl => ?_)
      refine lv_aload_n hx hb dXW_meet_13 rfl (lv_at hl 1 rfl) ?_
      refine lv_ifnull hx hb dXW_meet_14 ?_
      refine lv_aload hx hb dXW_meet_17 (lv_at hl 0 rfl) ?_
      refine lv_ifnull hx hb dXW_meet_19 ?_
      refine lv_iload_n hx hb dXW_meet_22 rfl (lv_at hl 3 rfl) ?_
      refine lv_iload_n hx hb dXW_meet_23 rfl (lv_at hl 4 rfl) ?_
      refine lv_icmp_ne (tgt := 29) hx hb dXW_meet_24 (by decide) (fun c14 => ?_) (fun c14 => ?_)
      · replace h := h.1 c14
        obtain ⟨mc17, ms18, hm1, hm2, h⟩ := h
        refine ko_XW_81 hx hb hown hts hK hE hP hS hA (show cells + 1 ≤ MC by omega) (show slots + 5 ≤ MS by omega) dXW_meet_29 (fun q15 H hq hP hS => ?_)
        obtain ⟨w16, ew16⟩ : ∃ y, y = fh_up w_10 q15 (.inr (8, [.null, .null, .null, .long 0, .long 0])) := ⟨_, rfl⟩
        replace h := h q15 hq w16 ew16
        rw [← ew16] at hP
        replace hbc : cells + 1 + mc17 = MC := by omega
        replace hbs : slots + 5 + ms18 = MS := by omega
        refine lv_dup hx hb dXW_meet_32 rfl ?_
        refine lv_aload_n hx hb dXW_meet_33 rfl (lv_at hl 2 rfl) ?_
        obtain ⟨x19, g20, h⟩ := h
        refine kg_XW_10 hx hb hown hts hN hK hP g20 dXW_meet_34 ?_
        refine lv_aload_n hx hb dXW_meet_37 rfl (lv_at hl 1 rfl) ?_
        refine lv_aload hx hb dXW_meet_38 (lv_at hl 0 rfl) ?_
        refine va_callv (va_runI (As := [.ref x19, .ref y9, .ref y13]) (rest := [.ref q15]) ⟨hx, hb, hml, hown, hts⟩ (cKXAs_init h) (gc_XW_83 hts hN ⟨Nat.le_of_ble_eq_true rfl, Nat.le_of_ble_eq_true rfl⟩) (k_preS hP hS hA hK hN hE) rfl rfl hl.1 rfl (lv_room (Nat.le_of_ble_eq_true rfl)) dXW_meet_40 ⟨show cells + 1 + 0 ≤ MC by omega, show slots + 5 + 0 ≤ MS by omega⟩) hS (fun _ _ q => q) (fun _ q => q) (fun w_21 t H locs ht hvm h hP hz hk hS => ?_)
        rw [fxC, ht] at hP
        refine W.cs (cells' := cells + 1) (slots' := slots + 5) rfl rfl ?_
        refine lv_astore (lv' := [(5, .ref q15), (4, .ref y13), (3, .ref y9), (0, .ref a0), (1, .int a1), (2, .int a2)]) hx hb dXW_meet_43 hl (by decide) rfl (fun ls hl => ?_)
        obtain ⟨mc24, ms25, hm1, hm2, h⟩ := h
        refine ko_XW_81 hx hb hown hts hK hE hP hS hA (show cells + 1 + 1 ≤ MC by omega) (show slots + 5 + 5 ≤ MS by omega) dXW_meet_45 (fun q22 H hq hP hS => ?_)
        obtain ⟨w23, ew23⟩ : ∃ y, y = fh_up w_21 q22 (.inr (8, [.null, .null, .null, .long 0, .long 0])) := ⟨_, rfl⟩
        replace h := h q22 hq w23 ew23
        rw [← ew23] at hP
        replace hbc : cells + 1 + 1 + mc24 = MC := by omega
        replace hbs : slots + 5 + 5 + ms25 = MS := by omega
        refine lv_dup hx hb dXW_meet_48 rfl ?_
        refine lv_aload_n hx hb dXW_meet_49 rfl (lv_at hl 3 rfl) ?_
        obtain ⟨x26, g27, h⟩ := h
        refine kg_XW_10 hx hb hown hts hN hK hP g27 dXW_meet_50 ?_
        refine lv_aload hx hb dXW_meet_53 (lv_at hl 1 rfl) ?_
        refine lv_aload_n hx hb dXW_meet_55 rfl (lv_at hl 2 rfl) ?_
        refine va_callv (va_runI (As := [.ref x26, .ref y13, .ref y9]) (rest := [.ref q22]) ⟨hx, hb, hml, hown, hts⟩ (cKXAs_init h) (gc_XW_83 hts hN ⟨Nat.le_of_ble_eq_true rfl, Nat.le_of_ble_eq_true rfl⟩) (k_preS hP hS hA hK hN hE) rfl rfl hl.1 rfl (lv_room (Nat.le_of_ble_eq_true rfl)) dXW_meet_56 ⟨show cells + 1 + 1 + 0 ≤ MC by omega, show slots + 5 + 5 + 0 ≤ MS by omega⟩) hS (fun _ _ q => q) (fun _ q => q) (fun w_28 t H locs ht hvm h hP hz hk hS => ?_)
        rw [fxC, ht] at hP
        refine W.cs (cells' := cells + 1 + 1) (slots' := slots + 5 + 5) rfl rfl ?_
        refine lv_astore (lv' := [(6, .ref q22), (5, .ref q15), (4, .ref y13), (3, .ref y9), (0, .ref a0), (1, .int a1), (2, .int a2)]) hx hb dXW_meet_59 hl (by decide) rfl (fun ls hl => ?_)
        refine lv_iconst (v := 0) hx hb dXW_meet_61 (by decide) ?_
        refine lv_istore (lv' := [(7, .int 0), (6, .ref q22), (5, .ref q15), (4, .ref y13), (3, .ref y9), (0, .ref a0), (1, .int a1), (2, .int a2)]) hx hb dXW_meet_62 hl (by decide) rfl (fun ls hl => ?_)
        obtain ⟨k, h⟩ := h
        exact sKXW_meet_64  C0  k w_28 mc24 ms25 q15 q22 0 h H locs ls hP hS (lv_sub hl [2, 1, 0] rfl) _ _ hbc hbs
      · replace h := h.2 c14
        refine lv_iconst (v := (-1)) hx hb dXW_meet_27 (by decide) ?_
        refine W.widen (k := MC) (n := MS) (by omega) (by omega) ?_
        exact W.iret hx hb hr (fun t ht hW => ⟨⟨_, _, rfl, h, by rw [fxC, ht]; exact hP⟩, hS.F ht⟩) hS.2.2 dXW_meet_28 hlocks
set_option maxRecDepth 100000 in
set_option maxHeartbeats 4000000 in
theorem cKXW_meet {l : Launch} {D : va_G} {ca : Nat → Nat} {A : Nat → Prop} {post : Int32 → fh_T → Prop} {w : fh_T} {mc : Nat} {ms : Nat} {a0 : Nat} {a1 : Int32} {a2 : Int32} (h : wKXW_meet post w mc ms a0 a1 a2) : Met l yXW_meet (.code yXW_meet cXW_meet 8 (some .int) :: lg_tbl) ({ frames := 9, cells := mc, slots := ms, locals := 218 } : Room) (va_Pc [.ref a0, .int a1, .int a2] (kB D ca A w)) (va_Qi post (fxC (fh_ok D ca A)) A) mc ms A := by
  refine fx_start (by decide +kernel) (Nat.le_of_ble_eq_true rfl) ?_
  intro p e s m below meth c ls hx hb hr hml hown hts hlocks hnm hB hl
  exact sKXW_meet_in ⟨hx, hb, hr, hml, hown, hts, hlocks, hB.2.2.1, hB.2.2.2.1, hB.2.2.2.2, hB.2.1, hnm⟩ w mc ms a0 a1 a2 h _ _ ls hB.1 va_S.rf hl 0 0 (Nat.zero_add _) (Nat.zero_add _)
noncomputable def wKXAL_clear_27 (post : fh_T → Prop) (n : Nat) : fh_T → Nat → Int32 → Int32 → Prop := Nat.rec (motive := fun _ => fh_T → Nat → Int32 → Int32 → Prop) (fun _ _ _ _ => False) (fun _ K27 w v1 v2 v3 => ((v2 ≤ v3 → (post w)) ∧ (¬ v2 ≤ v3 → (∃ n16 f17, w v1 = some (.inl (3, n16, .inr (.inr (.inr (.inr f17))))) ∧ vp_in v3 n16 ∧ ∀ w20, w20 = fh_up w v1 (.inl (3, n16, .inr (.inr (.inr (.inr (va_up f17 (Int32.toNatClampNeg v3) none)))))) → (K27 w20 v1 v2 (v3 + 1)))))) n
def wKXAL_clear (post : fh_T → Prop) (w : fh_T) (a0 : Nat) : Prop := (∃ x1, fh_g w a0 9 0 (.int x1) ∧ (∃ fs3, w a0 = some (.inr (9, fs3)) ∧ 0 < fs3.length ∧ ∀ w4, w4 = fh_up w a0 (.inr (9, fs3.set 0 (.int (x1 + 1)))) → (∃ x7, fh_g w4 a0 9 1 (.ref x7) ∧ (∃ x9, fh_g w4 a0 9 2 (.int x9) ∧ (∃ fs11, w4 a0 = some (.inr (9, fs11)) ∧ 2 < fs11.length ∧ ∀ w12, w12 = fh_up w4 a0 (.inr (9, fs11.set 2 (.int 0))) → (∃ k, wKXAL_clear_27 post  k w12 x7 x9 0))))))
set_option maxRecDepth 100000 in
set_option maxHeartbeats 4000000 in
theorem sKXAL_clear_27 {p : Program} {l : Launch} {e : Env} {s : State} {m : MethodId} {args : Array Value} {below : List Frame} {meth : Method} {c : Code} {D : va_G} {ca : Nat → Nat} {A : Nat → Prop} {post : fh_T → Prop} (C0 : kCx p s m args meth c D ca A RXAL cXAL_clear 4 none "clear") : ∀ (n : Nat) (w : fh_T) (v1 : Nat) (v2 : Int32) (v3 : Int32), wKXAL_clear_27 post  n w v1 v2 v3 → ∀ (H : Heap) (locs : List Loc) (ls : Array Slot), fh_ok D ca A w H → va_S A s.heap H locs → lv_has ls 4 [(1, .ref v1), (2, .int v2), (3, .int v3)] → W p l e ({ frames := 0, cells := 0, slots := 0, locals := 0 } : Room) s m args below meth c H locs 0 0 (MQ below (va_Qv post (fxC (fh_ok D ca A)) A) args s 0 0 A) (F0 m 27 ls []) := by
  obtain ⟨hx, hb, hr, hml, hown, hts, hlocks, hK, hN, hE, hA, hin⟩ := id C0
  intro n
  induction n with
  | zero => exact fun _ _ _ _ h => h.elim
  | succ n hK27 =>
    intro w v1 v2 v3 h H locs ls hP hS hl
    replace h : ((v2 ≤ v3 → (post w)) ∧ (¬ v2 ≤ v3 → (∃ n16 f17, w v1 = some (.inl (3, n16, .inr (.inr (.inr (.inr f17))))) ∧ vp_in v3 n16 ∧ ∀ w20, w20 = fh_up w v1 (.inl (3, n16, .inr (.inr (.inr (.inr (va_up f17 (Int32.toNatClampNeg v3) none)))))) → ((wKXAL_clear_27 post  n) w20 v1 v2 (v3 + 1))))) := h
    refine lv_iload_n hx hb dXAL_clear_27 rfl (lv_at hl 2 rfl) ?_
    refine lv_iload_n hx hb dXAL_clear_28 rfl (lv_at hl 1 rfl) ?_
    refine lv_icmp_ge (tgt := 42) hx hb dXAL_clear_29 (by decide) (fun c15 => ?_) (fun c15 => ?_)
    · replace h := h.1 c15
      exact W.vret hx hb hr (fun t ht hW => ⟨⟨_, rfl, h, by rw [fxC, ht]; exact hP⟩, hS.F ht⟩) hS.2.2 dXAL_clear_42 hlocks
    · replace h := h.2 c15
      refine lv_aload_n hx hb dXAL_clear_32 rfl (lv_at hl 0 rfl) ?_
      refine lv_iload_n hx hb dXAL_clear_33 rfl (lv_at hl 2 rfl) ?_
      refine lv_null hx hb dXAL_clear_34 ?_
      obtain ⟨n16, f17, g18, g19, h⟩ := h
      obtain ⟨w20, ew20⟩ : ∃ y, y = fh_up w v1 (.inl (3, n16, .inr (.inr (.inr (.inr (va_up f17 (Int32.toNatClampNeg v3) none)))))) := ⟨_, rfl⟩
      replace h := h w20 ew20
      refine kan 3 rfl rfl hx hb hK hP hS g18 g19 dXAL_clear_35 (fun H locs hP hS => ?_)
      rw [← ew20] at hP
      refine lv_iinc (v := v3 + 1) (lv' := [(3, .int (v3 + 1)), (1, .ref v1), (2, .int v2)]) hx hb dXAL_clear_36 hl (k := 2) rfl rfl (by decide) rfl (fun ls hl => ?_)
      refine lv_goto (tgt := 27) hx hb dXAL_clear_39 (by decide) ?_
      exact hK27 w20 v1 v2 (v3 + 1) h H locs ls hP hS (lv_sub hl [1, 2, 0] rfl)
set_option maxRecDepth 100000 in
set_option maxHeartbeats 4000000 in
theorem sKXAL_clear_in {p : Program} {l : Launch} {e : Env} {s : State} {m : MethodId} {args : Array Value} {below : List Frame} {meth : Method} {c : Code} {D : va_G} {ca : Nat → Nat} {A : Nat → Prop} {post : fh_T → Prop} (C0 : kCx p s m args meth c D ca A RXAL cXAL_clear 4 none "clear") : ∀ (w : fh_T) (a0 : Nat), wKXAL_clear post w a0 → ∀ (H : Heap) (locs : List Loc) (ls : Array Slot), fh_ok D ca A w H → va_S A s.heap H locs → lv_has ls 4 [(0, .ref a0)] → W p l e ({ frames := 0, cells := 0, slots := 0, locals := 0 } : Room) s m args below meth c H locs 0 0 (MQ below (va_Qv post (fxC (fh_ok D ca A)) A) args s 0 0 A) (F0 m 0 ls []) := by
  obtain ⟨hx, hb, hr, hml, hown, hts, hlocks, hK, hN, hE, hA, hin⟩ := id C0
  intro w a0 h H locs ls hP hS hl
  replace h : (∃ x1, fh_g w a0 9 0 (.int x1) ∧ (∃ fs3, w a0 = some (.inr (9, fs3)) ∧ 0 < fs3.length ∧ ∀ w4, w4 = fh_up w a0 (.inr (9, fs3.set 0 (.int (x1 + 1)))) → (∃ x7, fh_g w4 a0 9 1 (.ref x7) ∧ (∃ x9, fh_g w4 a0 9 2 (.int x9) ∧ (∃ fs11, w4 a0 = some (.inr (9, fs11)) ∧ 2 < fs11.length ∧ ∀ w12, w12 = fh_up w4 a0 (.inr (9, fs11.set 2 (.int 0))) → (∃ k, wKXAL_clear_27 post  k w12 x7 x9 0)))))) := h
  refine lv_aload_n hx hb dXAL_clear_0 rfl (lv_at hl 0 rfl) ?_
  refine lv_dup hx hb dXAL_clear_1 rfl ?_
  obtain ⟨x1, g2, h⟩ := h
  refine kg_XAL_63 hx hb hown hts hN hK hP g2 dXAL_clear_2 ?_
  refine lv_iconst (v := 1) hx hb dXAL_clear_5 (by decide) ?_
  refine lv_iadd hx hb dXAL_clear_6 ?_
  obtain ⟨fs3, g5, g6, h⟩ := h
  obtain ⟨w4, ew4⟩ : ∃ y, y = fh_up w a0 (.inr (9, fs3.set 0 (.int (x1 + 1)))) := ⟨_, rfl⟩
  replace h := h w4 ew4
  refine kp_XAL_63 hx hb hown hts hN hK hP hS g5 g6 dXAL_clear_7 (fun H locs hP hS => ?_)
  rw [← ew4] at hP
  refine lv_aload_n hx hb dXAL_clear_10 rfl (lv_at hl 0 rfl) ?_
  obtain ⟨x7, g8, h⟩ := h
  refine kg_XAL_9 hx hb hown hts hN hK hP g8 dXAL_clear_11 ?_
  refine lv_astore_n (lv' := [(1, .ref x7), (0, .ref a0)]) hx hb dXAL_clear_14 rfl hl (by decide) rfl (fun ls hl => ?_)
  refine lv_aload_n hx hb dXAL_clear_15 rfl (lv_at hl 1 rfl) ?_
  obtain ⟨x9, g10, h⟩ := h
  refine kg_XAL_48 hx hb hown hts hN hK hP g10 dXAL_clear_16 ?_
  refine lv_istore_n (lv' := [(2, .int x9), (1, .ref x7), (0, .ref a0)]) hx hb dXAL_clear_19 rfl hl (by decide) rfl (fun ls hl => ?_)
  refine lv_aload_n hx hb dXAL_clear_20 rfl (lv_at hl 2 rfl) ?_
  refine lv_iconst (v := 0) hx hb dXAL_clear_21 (by decide) ?_
  refine lv_dup_x1 hx hb dXAL_clear_22 rfl rfl ?_
  obtain ⟨fs11, g13, g14, h⟩ := h
  obtain ⟨w12, ew12⟩ : ∃ y, y = fh_up w4 a0 (.inr (9, fs11.set 2 (.int 0))) := ⟨_, rfl⟩
  replace h := h w12 ew12
  refine kp_XAL_48 hx hb hown hts hN hK hP hS g13 g14 dXAL_clear_23 (fun H locs hP hS => ?_)
  rw [← ew12] at hP
  refine lv_istore_n (lv' := [(3, .int 0), (2, .int x9), (1, .ref x7), (0, .ref a0)]) hx hb dXAL_clear_26 rfl hl (by decide) rfl (fun ls hl => ?_)
  obtain ⟨k, h⟩ := h
  exact sKXAL_clear_27  C0  k w12 x7 x9 0 h H locs ls hP hS (lv_sub hl [2, 1, 0] rfl)
set_option maxRecDepth 100000 in
set_option maxHeartbeats 4000000 in
theorem cKXAL_clear {l : Launch} {D : va_G} {ca : Nat → Nat} {A : Nat → Prop} {post : fh_T → Prop} {w : fh_T} {a0 : Nat} (h : wKXAL_clear post w a0) : Met l yXAL_clear (.code yXAL_clear cXAL_clear 4 none :: lg_tbl) ({ frames := 0, cells := 0, slots := 0, locals := 0 } : Room) (va_Pc [.ref a0] (kB D ca A w)) (va_Qv post (fxC (fh_ok D ca A)) A) 0 0 A := by
  refine fx_start (by decide +kernel) (Nat.le_of_ble_eq_true rfl) ?_
  intro p e s m below meth c ls hx hb hr hml hown hts hlocks hnm hB hl
  exact sKXAL_clear_in ⟨hx, hb, hr, hml, hown, hts, hlocks, hB.2.2.1, hB.2.2.2.1, hB.2.2.2.2, hB.2.1, hnm⟩ w a0 h _ _ ls hB.1 va_S.rf hl
def wKXW_drop (post : Int32 → fh_T → Prop) (w : fh_T) (a0 : Nat) (a1 : Int32) : Prop := (∃ fs2, w a0 = some (.inr (1, fs2)) ∧ (wKXW_replicaAt (fun r1 w_1 => ((r1 = none → (post (-1) w_1)) ∧ (∀ y4, r1 = some y4 → (∃ x5, fh_g w_1 y4 4 3 (.ref x5) ∧ (∃ fs8, w_1 x5 = some (.inr (9, fs8)) ∧ (wKXAL_size (fun r7 w_7 => (∃ x10, fh_g w_7 y4 4 3 (.ref x10) ∧ (∃ fs13, w_7 x10 = some (.inr (9, fs13)) ∧ (wKXAL_clear (fun w_12 => (post r7 w_12)) w_7 x10)))) w_1 x5)))))) w a0 a1))
set_option maxRecDepth 100000 in
set_option maxHeartbeats 4000000 in
theorem sKXW_drop_in {p : Program} {l : Launch} {e : Env} {s : State} {m : MethodId} {args : Array Value} {below : List Frame} {meth : Method} {c : Code} {D : va_G} {ca : Nat → Nat} {A : Nat → Prop} {post : Int32 → fh_T → Prop} (C0 : kCx p s m args meth c D ca A RXW cXW_drop 4 (some .int) "drop") : ∀ (w : fh_T) (a0 : Nat) (a1 : Int32), wKXW_drop post w a0 a1 → ∀ (H : Heap) (locs : List Loc) (ls : Array Slot), fh_ok D ca A w H → va_S A s.heap H locs → lv_has ls 4 [(0, .ref a0), (1, .int a1)] → W p l e ({ frames := 1, cells := 0, slots := 0, locals := 23 } : Room) s m args below meth c H locs 0 0 (MQ below (va_Qi post (fxC (fh_ok D ca A)) A) args s 0 0 A) (F0 m 0 ls []) := by
  obtain ⟨hx, hb, hr, hml, hown, hts, hlocks, hK, hN, hE, hA, hin⟩ := id C0
  intro w a0 a1 h H locs ls hP hS hl
  replace h : (∃ fs2, w a0 = some (.inr (1, fs2)) ∧ (wKXW_replicaAt (fun r1 w_1 => ((r1 = none → (post (-1) w_1)) ∧ (∀ y4, r1 = some y4 → (∃ x5, fh_g w_1 y4 4 3 (.ref x5) ∧ (∃ fs8, w_1 x5 = some (.inr (9, fs8)) ∧ (wKXAL_size (fun r7 w_7 => (∃ x10, fh_g w_7 y4 4 3 (.ref x10) ∧ (∃ fs13, w_7 x10 = some (.inr (9, fs13)) ∧ (wKXAL_clear (fun w_12 => (post r7 w_12)) w_7 x10)))) w_1 x5)))))) w a0 a1)) := h
  refine lv_aload_n hx hb dXW_drop_0 rfl (lv_at hl 0 rfl) ?_
  refine lv_iload_n hx hb dXW_drop_1 rfl (lv_at hl 1 rfl) ?_
  obtain ⟨fs2, g3, h⟩ := h
  refine va_calle (va_runV (As := [.int a1]) (rest := []) ⟨hx, hb, hml, hown, hts⟩ (cKXW_replicaAt h) (gc_XW_35 hts hN ⟨Nat.le_of_ble_eq_true rfl, Nat.le_of_ble_eq_true rfl⟩) (k_preV g3 rfl hP hS hA hK hN hE) rfl rfl hl.1 rfl (lv_room (Nat.le_of_ble_eq_true rfl)) dXW_drop_2 ⟨Nat.le_of_ble_eq_true rfl, Nat.le_of_ble_eq_true rfl⟩) hS (fun _ _ q => q) (fun _ q => q) (fun r1 w_1 t H locs ht hvm h hP hz hk hS => ?_)
  rw [fxC, ht] at hP
  rcases e15 : r1 with _ | y4
  · replace h := h.1 e15
    subst e15
    refine lv_astore_nN (lv' := [(2, .null), (0, .ref a0), (1, .int a1)]) hx hb dXW_drop_5 rfl hl (by decide) rfl (fun ls hl => ?_)
    refine lv_aload_nN hx hb dXW_drop_6 rfl (lv_at hl 0 rfl) ?_
    refine lv_ifnonnullN hx hb dXW_drop_7 ?_
    refine lv_iconst (v := (-1)) hx hb dXW_drop_10 (by decide) ?_
    exact W.iret hx hb hr (fun t ht hW => ⟨⟨_, _, rfl, h, by rw [fxC, ht]; exact hP⟩, hS.F ht⟩) hS.2.2 dXW_drop_11 hlocks
  · replace h := h.2 y4 e15
    subst e15
    refine lv_astore_n (lv' := [(2, .ref y4), (0, .ref a0), (1, .int a1)]) hx hb dXW_drop_5 rfl hl (by decide) rfl (fun ls hl => ?_)
    refine lv_aload_n hx hb dXW_drop_6 rfl (lv_at hl 0 rfl) ?_
    refine lv_ifnonnull (tgt := 12) hx hb dXW_drop_7 (by decide) ?_
    refine lv_aload_n hx hb dXW_drop_12 rfl (lv_at hl 0 rfl) ?_
    obtain ⟨x5, g6, h⟩ := h
    refine kg_XW_96 hx hb hown hts hN hK hP g6 dXW_drop_13 ?_
    obtain ⟨fs8, g9, h⟩ := h
    refine va_calli (va_runV (As := []) (rest := []) ⟨hx, hb, hml, hown, hts⟩ (cKXAL_size h) (gc_XW_100 hts hN ⟨Nat.le_of_ble_eq_true rfl, Nat.le_of_ble_eq_true rfl⟩) (k_preV g9 rfl hP hS hA hK hN hE) rfl rfl hl.1 rfl (lv_room (Nat.le_of_ble_eq_true rfl)) dXW_drop_16 ⟨Nat.le_of_ble_eq_true rfl, Nat.le_of_ble_eq_true rfl⟩) hS (fun _ _ q => q) (fun _ q => q) (fun r7 w_7 t H locs ht hvm h hP hz hk hS => ?_)
    rw [fxC, ht] at hP
    refine lv_istore_n (lv' := [(3, .int r7), (2, .ref y4), (0, .ref a0), (1, .int a1)]) hx hb dXW_drop_19 rfl hl (by decide) rfl (fun ls hl => ?_)
    refine lv_aload_n hx hb dXW_drop_20 rfl (lv_at hl 1 rfl) ?_
    obtain ⟨x10, g11, h⟩ := h
    refine kg_XW_96 hx hb hown hts hN hK hP g11 dXW_drop_21 ?_
    obtain ⟨fs13, g14, h⟩ := h
    refine va_callv (va_runV (As := []) (rest := []) ⟨hx, hb, hml, hown, hts⟩ (cKXAL_clear h) (gc_XW_105 hts hN ⟨Nat.le_of_ble_eq_true rfl, Nat.le_of_ble_eq_true rfl⟩) (k_preV g14 rfl hP hS hA hK hN hE) rfl rfl hl.1 rfl (lv_room (Nat.le_of_ble_eq_true rfl)) dXW_drop_24 ⟨Nat.le_of_ble_eq_true rfl, Nat.le_of_ble_eq_true rfl⟩) hS (fun _ _ q => q) (fun _ q => q) (fun w_12 t H locs ht hvm h hP hz hk hS => ?_)
    rw [fxC, ht] at hP
    refine lv_iload_n hx hb dXW_drop_27 rfl (lv_at hl 0 rfl) ?_
    exact W.iret hx hb hr (fun t ht hW => ⟨⟨_, _, rfl, h, by rw [fxC, ht]; exact hP⟩, hS.F ht⟩) hS.2.2 dXW_drop_28 hlocks
set_option maxRecDepth 100000 in
set_option maxHeartbeats 4000000 in
theorem cKXW_drop {l : Launch} {D : va_G} {ca : Nat → Nat} {A : Nat → Prop} {post : Int32 → fh_T → Prop} {w : fh_T} {a0 : Nat} {a1 : Int32} (h : wKXW_drop post w a0 a1) : Met l yXW_drop (.code yXW_drop cXW_drop 4 (some .int) :: lg_tbl) ({ frames := 1, cells := 0, slots := 0, locals := 23 } : Room) (va_Pc [.ref a0, .int a1] (kB D ca A w)) (va_Qi post (fxC (fh_ok D ca A)) A) 0 0 A := by
  refine fx_start (by decide +kernel) (Nat.le_of_ble_eq_true rfl) ?_
  intro p e s m below meth c ls hx hb hr hml hown hts hlocks hnm hB hl
  exact sKXW_drop_in ⟨hx, hb, hr, hml, hown, hts, hlocks, hB.2.2.1, hB.2.2.2.1, hB.2.2.2.2, hB.2.1, hnm⟩ w a0 a1 h _ _ ls hB.1 va_S.rf hl
def wKXW_held (post : Int32 → fh_T → Prop) (w : fh_T) (a0 : Nat) (a1 : Int32) : Prop := (∃ fs2, w a0 = some (.inr (1, fs2)) ∧ (wKXW_replicaAt (fun r1 w_1 => ((r1 = none → (post (-1) w_1)) ∧ (∀ y4, r1 = some y4 → (∃ x5, fh_g w_1 y4 4 1 (.ref x5) ∧ (∃ x7, fh_g w_1 x5 3 1 (.int x7) ∧ (post x7 w_1)))))) w a0 a1))
set_option maxRecDepth 100000 in
set_option maxHeartbeats 4000000 in
theorem sKXW_held_in {p : Program} {l : Launch} {e : Env} {s : State} {m : MethodId} {args : Array Value} {below : List Frame} {meth : Method} {c : Code} {D : va_G} {ca : Nat → Nat} {A : Nat → Prop} {post : Int32 → fh_T → Prop} (C0 : kCx p s m args meth c D ca A RXW cXW_held 3 (some .int) "held") : ∀ (w : fh_T) (a0 : Nat) (a1 : Int32), wKXW_held post w a0 a1 → ∀ (H : Heap) (locs : List Loc) (ls : Array Slot), fh_ok D ca A w H → va_S A s.heap H locs → lv_has ls 3 [(0, .ref a0), (1, .int a1)] → W p l e ({ frames := 1, cells := 0, slots := 0, locals := 21 } : Room) s m args below meth c H locs 0 0 (MQ below (va_Qi post (fxC (fh_ok D ca A)) A) args s 0 0 A) (F0 m 0 ls []) := by
  obtain ⟨hx, hb, hr, hml, hown, hts, hlocks, hK, hN, hE, hA, hin⟩ := id C0
  intro w a0 a1 h H locs ls hP hS hl
  replace h : (∃ fs2, w a0 = some (.inr (1, fs2)) ∧ (wKXW_replicaAt (fun r1 w_1 => ((r1 = none → (post (-1) w_1)) ∧ (∀ y4, r1 = some y4 → (∃ x5, fh_g w_1 y4 4 1 (.ref x5) ∧ (∃ x7, fh_g w_1 x5 3 1 (.int x7) ∧ (post x7 w_1)))))) w a0 a1)) := h
  refine lv_aload_n hx hb dXW_held_0 rfl (lv_at hl 0 rfl) ?_
  refine lv_iload_n hx hb dXW_held_1 rfl (lv_at hl 1 rfl) ?_
  obtain ⟨fs2, g3, h⟩ := h
  refine va_calle (va_runV (As := [.int a1]) (rest := []) ⟨hx, hb, hml, hown, hts⟩ (cKXW_replicaAt h) (gc_XW_35 hts hN ⟨Nat.le_of_ble_eq_true rfl, Nat.le_of_ble_eq_true rfl⟩) (k_preV g3 rfl hP hS hA hK hN hE) rfl rfl hl.1 rfl (lv_room (Nat.le_of_ble_eq_true rfl)) dXW_held_2 ⟨Nat.le_of_ble_eq_true rfl, Nat.le_of_ble_eq_true rfl⟩) hS (fun _ _ q => q) (fun _ q => q) (fun r1 w_1 t H locs ht hvm h hP hz hk hS => ?_)
  rw [fxC, ht] at hP
  rcases e9 : r1 with _ | y4
  · replace h := h.1 e9
    subst e9
    refine lv_astore_nN (lv' := [(2, .null), (0, .ref a0), (1, .int a1)]) hx hb dXW_held_5 rfl hl (by decide) rfl (fun ls hl => ?_)
    refine lv_aload_nN hx hb dXW_held_6 rfl (lv_at hl 0 rfl) ?_
    refine lv_ifnonnullN hx hb dXW_held_7 ?_
    refine lv_iconst (v := (-1)) hx hb dXW_held_10 (by decide) ?_
    refine lv_goto (tgt := 21) hx hb dXW_held_11 (by decide) ?_
    exact W.iret hx hb hr (fun t ht hW => ⟨⟨_, _, rfl, h, by rw [fxC, ht]; exact hP⟩, hS.F ht⟩) hS.2.2 dXW_held_21 hlocks
  · replace h := h.2 y4 e9
    subst e9
    refine lv_astore_n (lv' := [(2, .ref y4), (0, .ref a0), (1, .int a1)]) hx hb dXW_held_5 rfl hl (by decide) rfl (fun ls hl => ?_)
    refine lv_aload_n hx hb dXW_held_6 rfl (lv_at hl 0 rfl) ?_
    refine lv_ifnonnull (tgt := 14) hx hb dXW_held_7 (by decide) ?_
    refine lv_aload_n hx hb dXW_held_14 rfl (lv_at hl 0 rfl) ?_
    obtain ⟨x5, g6, h⟩ := h
    refine kg_XW_108 hx hb hown hts hN hK hP g6 dXW_held_15 ?_
    obtain ⟨x7, g8, h⟩ := h
    refine kg_XW_47 hx hb hown hts hN hK hP g8 dXW_held_18 ?_
    exact W.iret hx hb hr (fun t ht hW => ⟨⟨_, _, rfl, h, by rw [fxC, ht]; exact hP⟩, hS.F ht⟩) hS.2.2 dXW_held_21 hlocks
set_option maxRecDepth 100000 in
set_option maxHeartbeats 4000000 in
theorem cKXW_held {l : Launch} {D : va_G} {ca : Nat → Nat} {A : Nat → Prop} {post : Int32 → fh_T → Prop} {w : fh_T} {a0 : Nat} {a1 : Int32} (h : wKXW_held post w a0 a1) : Met l yXW_held (.code yXW_held cXW_held 3 (some .int) :: lg_tbl) ({ frames := 1, cells := 0, slots := 0, locals := 21 } : Room) (va_Pc [.ref a0, .int a1] (kB D ca A w)) (va_Qi post (fxC (fh_ok D ca A)) A) 0 0 A := by
  refine fx_start (by decide +kernel) (Nat.le_of_ble_eq_true rfl) ?_
  intro p e s m below meth c ls hx hb hr hml hown hts hlocks hnm hB hl
  exact sKXW_held_in ⟨hx, hb, hr, hml, hown, hts, hlocks, hB.2.2.1, hB.2.2.2.1, hB.2.2.2.2, hB.2.1, hnm⟩ w a0 a1 h _ _ ls hB.1 va_S.rf hl
def wKXW_waiting (post : Int32 → fh_T → Prop) (w : fh_T) (a0 : Nat) (a1 : Int32) : Prop := (∃ fs2, w a0 = some (.inr (1, fs2)) ∧ (wKXW_replicaAt (fun r1 w_1 => ((r1 = none → (post (-1) w_1)) ∧ (∀ y4, r1 = some y4 → (∃ x5, fh_g w_1 y4 4 3 (.ref x5) ∧ (∃ fs8, w_1 x5 = some (.inr (9, fs8)) ∧ (wKXAL_size (fun r7 w_7 => (post r7 w_7)) w_1 x5)))))) w a0 a1))
set_option maxRecDepth 100000 in
set_option maxHeartbeats 4000000 in
theorem sKXW_waiting_in {p : Program} {l : Launch} {e : Env} {s : State} {m : MethodId} {args : Array Value} {below : List Frame} {meth : Method} {c : Code} {D : va_G} {ca : Nat → Nat} {A : Nat → Prop} {post : Int32 → fh_T → Prop} (C0 : kCx p s m args meth c D ca A RXW cXW_waiting 3 (some .int) "waiting") : ∀ (w : fh_T) (a0 : Nat) (a1 : Int32), wKXW_waiting post w a0 a1 → ∀ (H : Heap) (locs : List Loc) (ls : Array Slot), fh_ok D ca A w H → va_S A s.heap H locs → lv_has ls 3 [(0, .ref a0), (1, .int a1)] → W p l e ({ frames := 1, cells := 0, slots := 0, locals := 21 } : Room) s m args below meth c H locs 0 0 (MQ below (va_Qi post (fxC (fh_ok D ca A)) A) args s 0 0 A) (F0 m 0 ls []) := by
  obtain ⟨hx, hb, hr, hml, hown, hts, hlocks, hK, hN, hE, hA, hin⟩ := id C0
  intro w a0 a1 h H locs ls hP hS hl
  replace h : (∃ fs2, w a0 = some (.inr (1, fs2)) ∧ (wKXW_replicaAt (fun r1 w_1 => ((r1 = none → (post (-1) w_1)) ∧ (∀ y4, r1 = some y4 → (∃ x5, fh_g w_1 y4 4 3 (.ref x5) ∧ (∃ fs8, w_1 x5 = some (.inr (9, fs8)) ∧ (wKXAL_size (fun r7 w_7 => (post r7 w_7)) w_1 x5)))))) w a0 a1)) := h
  refine lv_aload_n hx hb dXW_waiting_0 rfl (lv_at hl 0 rfl) ?_
  refine lv_iload_n hx hb dXW_waiting_1 rfl (lv_at hl 1 rfl) ?_
  obtain ⟨fs2, g3, h⟩ := h
  refine va_calle (va_runV (As := [.int a1]) (rest := []) ⟨hx, hb, hml, hown, hts⟩ (cKXW_replicaAt h) (gc_XW_35 hts hN ⟨Nat.le_of_ble_eq_true rfl, Nat.le_of_ble_eq_true rfl⟩) (k_preV g3 rfl hP hS hA hK hN hE) rfl rfl hl.1 rfl (lv_room (Nat.le_of_ble_eq_true rfl)) dXW_waiting_2 ⟨Nat.le_of_ble_eq_true rfl, Nat.le_of_ble_eq_true rfl⟩) hS (fun _ _ q => q) (fun _ q => q) (fun r1 w_1 t H locs ht hvm h hP hz hk hS => ?_)
  rw [fxC, ht] at hP
  rcases e10 : r1 with _ | y4
  · replace h := h.1 e10
    subst e10
    refine lv_astore_nN (lv' := [(2, .null), (0, .ref a0), (1, .int a1)]) hx hb dXW_waiting_5 rfl hl (by decide) rfl (fun ls hl => ?_)
    refine lv_aload_nN hx hb dXW_waiting_6 rfl (lv_at hl 0 rfl) ?_
    refine lv_ifnonnullN hx hb dXW_waiting_7 ?_
    refine lv_iconst (v := (-1)) hx hb dXW_waiting_10 (by decide) ?_
    refine lv_goto (tgt := 21) hx hb dXW_waiting_11 (by decide) ?_
    exact W.iret hx hb hr (fun t ht hW => ⟨⟨_, _, rfl, h, by rw [fxC, ht]; exact hP⟩, hS.F ht⟩) hS.2.2 dXW_waiting_21 hlocks
  · replace h := h.2 y4 e10
    subst e10
    refine lv_astore_n (lv' := [(2, .ref y4), (0, .ref a0), (1, .int a1)]) hx hb dXW_waiting_5 rfl hl (by decide) rfl (fun ls hl => ?_)
    refine lv_aload_n hx hb dXW_waiting_6 rfl (lv_at hl 0 rfl) ?_
    refine lv_ifnonnull (tgt := 14) hx hb dXW_waiting_7 (by decide) ?_
    refine lv_aload_n hx hb dXW_waiting_14 rfl (lv_at hl 0 rfl) ?_
    obtain ⟨x5, g6, h⟩ := h
    refine kg_XW_96 hx hb hown hts hN hK hP g6 dXW_waiting_15 ?_
    obtain ⟨fs8, g9, h⟩ := h
    refine va_calli (va_runV (As := []) (rest := []) ⟨hx, hb, hml, hown, hts⟩ (cKXAL_size h) (gc_XW_100 hts hN ⟨Nat.le_of_ble_eq_true rfl, Nat.le_of_ble_eq_true rfl⟩) (k_preV g9 rfl hP hS hA hK hN hE) rfl rfl hl.1 rfl (lv_room (Nat.le_of_ble_eq_true rfl)) dXW_waiting_18 ⟨Nat.le_of_ble_eq_true rfl, Nat.le_of_ble_eq_true rfl⟩) hS (fun _ _ q => q) (fun _ q => q) (fun r7 w_7 t H locs ht hvm h hP hz hk hS => ?_)
    rw [fxC, ht] at hP
    exact W.iret hx hb hr (fun t ht hW => ⟨⟨_, _, rfl, h, by rw [fxC, ht]; exact hP⟩, hS.F ht⟩) hS.2.2 dXW_waiting_21 hlocks
set_option maxRecDepth 100000 in
set_option maxHeartbeats 4000000 in
theorem cKXW_waiting {l : Launch} {D : va_G} {ca : Nat → Nat} {A : Nat → Prop} {post : Int32 → fh_T → Prop} {w : fh_T} {a0 : Nat} {a1 : Int32} (h : wKXW_waiting post w a0 a1) : Met l yXW_waiting (.code yXW_waiting cXW_waiting 3 (some .int) :: lg_tbl) ({ frames := 1, cells := 0, slots := 0, locals := 21 } : Room) (va_Pc [.ref a0, .int a1] (kB D ca A w)) (va_Qi post (fxC (fh_ok D ca A)) A) 0 0 A := by
  refine fx_start (by decide +kernel) (Nat.le_of_ble_eq_true rfl) ?_
  intro p e s m below meth c ls hx hb hr hml hown hts hlocks hnm hB hl
  exact sKXW_waiting_in ⟨hx, hb, hr, hml, hown, hts, hlocks, hB.2.2.1, hB.2.2.2.1, hB.2.2.2.2, hB.2.1, hnm⟩ w a0 a1 h _ _ ls hB.1 va_S.rf hl
def wKXW_has (post : Int32 → fh_T → Prop) (w : fh_T) (a0 : Nat) (a1 : Int32) (a2 : Int64) : Prop := (∃ fs2, w a0 = some (.inr (1, fs2)) ∧ (wKXW_replicaAt (fun r1 w_1 => ((r1 = none → (post 0 w_1)) ∧ (∀ y4, r1 = some y4 → (∃ x5, fh_g w_1 a0 1 0 (.ref x5) ∧ (∃ fs8, w_1 x5 = some (.inr (2, fs8)) ∧ (wKXKn_find (fun r7 w_7 => ((r7 = none → (∃ fs11, w_7 y4 = some (.inr (4, fs11)) ∧ (wKXRe_holdsN (fun r10 w_10 => ((r10 = 0 → (post 0 w_10)) ∧ (¬ r10 = 0 → (post 1 w_10)))) w_7 y4))) ∧ (∀ y14, r7 = some y14 → (∃ fs16, w_7 y4 = some (.inr (4, fs16)) ∧ (wKXRe_holds (fun r15 w_15 => ((r15 = 0 → (post 0 w_15)) ∧ (¬ r15 = 0 → (post 1 w_15)))) w_7 y4 y14))))) w_1 x5 a2)))))) w a0 a1))
set_option maxRecDepth 100000 in
set_option maxHeartbeats 4000000 in
theorem sKXW_has_in {p : Program} {l : Launch} {e : Env} {s : State} {m : MethodId} {args : Array Value} {below : List Frame} {meth : Method} {c : Code} {D : va_G} {ca : Nat → Nat} {A : Nat → Prop} {post : Int32 → fh_T → Prop} (C0 : kCx p s m args meth c D ca A RXW cXW_has 5 (some .boolean) "has") : ∀ (w : fh_T) (a0 : Nat) (a1 : Int32) (a2 : Int64), wKXW_has post w a0 a1 a2 → ∀ (H : Heap) (locs : List Loc) (ls : Array Slot), fh_ok D ca A w H → va_S A s.heap H locs → lv_has ls 5 [(0, .ref a0), (1, .int a1), (2, .long a2)] → W p l e ({ frames := 2, cells := 0, slots := 0, locals := 43 } : Room) s m args below meth c H locs 0 0 (MQ below (va_Qi post (fxC (fh_ok D ca A)) A) args s 0 0 A) (F0 m 0 ls []) := by
  obtain ⟨hx, hb, hr, hml, hown, hts, hlocks, hK, hN, hE, hA, hin⟩ := id C0
  intro w a0 a1 a2 h H locs ls hP hS hl
  replace h : (∃ fs2, w a0 = some (.inr (1, fs2)) ∧ (wKXW_replicaAt (fun r1 w_1 => ((r1 = none → (post 0 w_1)) ∧ (∀ y4, r1 = some y4 → (∃ x5, fh_g w_1 a0 1 0 (.ref x5) ∧ (∃ fs8, w_1 x5 = some (.inr (2, fs8)) ∧ (wKXKn_find (fun r7 w_7 => ((r7 = none → (∃ fs11, w_7 y4 = some (.inr (4, fs11)) ∧ (wKXRe_holdsN (fun r10 w_10 => ((r10 = 0 → (post 0 w_10)) ∧ (¬ r10 = 0 → (post 1 w_10)))) w_7 y4))) ∧ (∀ y14, r7 = some y14 → (∃ fs16, w_7 y4 = some (.inr (4, fs16)) ∧ (wKXRe_holds (fun r15 w_15 => ((r15 = 0 → (post 0 w_15)) ∧ (¬ r15 = 0 → (post 1 w_15)))) w_7 y4 y14))))) w_1 x5 a2)))))) w a0 a1)) := h
  refine lv_aload_n hx hb dXW_has_0 rfl (lv_at hl 0 rfl) ?_
  refine lv_iload_n hx hb dXW_has_1 rfl (lv_at hl 1 rfl) ?_
  obtain ⟨fs2, g3, h⟩ := h
  refine va_calle (va_runV (As := [.int a1]) (rest := []) ⟨hx, hb, hml, hown, hts⟩ (cKXW_replicaAt h) (gc_XW_35 hts hN ⟨Nat.le_of_ble_eq_true rfl, Nat.le_of_ble_eq_true rfl⟩) (k_preV g3 rfl hP hS hA hK hN hE) rfl rfl hl.1 rfl (lv_room (Nat.le_of_ble_eq_true rfl)) dXW_has_2 ⟨Nat.le_of_ble_eq_true rfl, Nat.le_of_ble_eq_true rfl⟩) hS (fun _ _ q => q) (fun _ q => q) (fun r1 w_1 t H locs ht hvm h hP hz hk hS => ?_)
  rw [fxC, ht] at hP
  rcases e20 : r1 with _ | y4
  · replace h := h.1 e20
    subst e20
    refine lv_astoreN (lv' := [(4, .null), (0, .ref a0), (1, .int a1), (2, .long a2)]) hx hb dXW_has_5 hl (by decide) rfl (fun ls hl => ?_)
    refine lv_aloadN hx hb dXW_has_7 (lv_at hl 0 rfl) ?_
    refine lv_ifnullN (tgt := 32) hx hb dXW_has_9 (by decide) ?_
    refine lv_iconst (v := 0) hx hb dXW_has_32 (by decide) ?_
    exact W.zret hx hb hr rfl (fun t ht hW => ⟨⟨_, _, rfl, h, by rw [fxC, ht]; exact hP⟩, hS.F ht⟩) hS.2.2 dXW_has_33 hlocks
  · replace h := h.2 y4 e20
    subst e20
    refine lv_astore (lv' := [(4, .ref y4), (0, .ref a0), (1, .int a1), (2, .long a2)]) hx hb dXW_has_5 hl (by decide) rfl (fun ls hl => ?_)
    refine lv_aload hx hb dXW_has_7 (lv_at hl 0 rfl) ?_
    refine lv_ifnull hx hb dXW_has_9 ?_
    refine lv_aload hx hb dXW_has_12 (lv_at hl 0 rfl) ?_
    refine lv_aload_n hx hb dXW_has_14 rfl (lv_at hl 1 rfl) ?_
    obtain ⟨x5, g6, h⟩ := h
    refine kg_XW_10 hx hb hown hts hN hK hP g6 dXW_has_15 ?_
    refine lv_lload_n hx hb dXW_has_18 rfl (lv_at hl 3 rfl) ?_
    obtain ⟨fs8, g9, h⟩ := h
    refine va_calle (va_runV (As := [.long a2]) (rest := [.ref y4]) ⟨hx, hb, hml, hown, hts⟩ (cKXKn_find h) (gc_XW_111 hts hN ⟨Nat.le_of_ble_eq_true rfl, Nat.le_of_ble_eq_true rfl⟩) (k_preV g9 rfl hP hS hA hK hN hE) rfl rfl hl.1 rfl (lv_room (Nat.le_of_ble_eq_true rfl)) dXW_has_19 ⟨Nat.le_of_ble_eq_true rfl, Nat.le_of_ble_eq_true rfl⟩) hS (fun _ _ q => q) (fun _ q => q) (fun r7 w_7 t H locs ht hvm h hP hz hk hS => ?_)
    rw [fxC, ht] at hP
    rcases e19 : r7 with _ | y14
    · replace h := h.1 e19
      subst e19
      obtain ⟨fs11, g12, h⟩ := h
      refine va_calli (va_runV (As := [.null]) (rest := []) ⟨hx, hb, hml, hown, hts⟩ (cKXRe_holdsN h) (gc_XW_115 hts hN ⟨Nat.le_of_ble_eq_true rfl, Nat.le_of_ble_eq_true rfl⟩) (k_preV g12 rfl hP hS hA hK hN hE) rfl rfl hl.1 rfl (lv_room (Nat.le_of_ble_eq_true rfl)) dXW_has_22 ⟨Nat.le_of_ble_eq_true rfl, Nat.le_of_ble_eq_true rfl⟩) hS (fun _ _ q => q) (fun _ q => q) (fun r10 w_10 t H locs ht hvm h hP hz hk hS => ?_)
      rw [fxC, ht] at hP
      refine lv_if_eq (tgt := 32) hx hb dXW_has_25 (by decide) (fun c13 => ?_) (fun c13 => ?_)
      · replace h := h.1 c13
        refine lv_iconst (v := 0) hx hb dXW_has_32 (by decide) ?_
        exact W.zret hx hb hr rfl (fun t ht hW => ⟨⟨_, _, rfl, h, by rw [fxC, ht]; exact hP⟩, hS.F ht⟩) hS.2.2 dXW_has_33 hlocks
      · replace h := h.2 c13
        refine lv_iconst (v := 1) hx hb dXW_has_28 (by decide) ?_
        refine lv_goto (tgt := 33) hx hb dXW_has_29 (by decide) ?_
        exact W.zret hx hb hr rfl (fun t ht hW => ⟨⟨_, _, rfl, h, by rw [fxC, ht]; exact hP⟩, hS.F ht⟩) hS.2.2 dXW_has_33 hlocks
    · replace h := h.2 y14 e19
      subst e19
      obtain ⟨fs16, g17, h⟩ := h
      refine va_calli (va_runV (As := [.ref y14]) (rest := []) ⟨hx, hb, hml, hown, hts⟩ (cKXRe_holds h) (gc_XW_115 hts hN ⟨Nat.le_of_ble_eq_true rfl, Nat.le_of_ble_eq_true rfl⟩) (k_preV g17 rfl hP hS hA hK hN hE) rfl rfl hl.1 rfl (lv_room (Nat.le_of_ble_eq_true rfl)) dXW_has_22 ⟨Nat.le_of_ble_eq_true rfl, Nat.le_of_ble_eq_true rfl⟩) hS (fun _ _ q => q) (fun _ q => q) (fun r15 w_15 t H locs ht hvm h hP hz hk hS => ?_)
      rw [fxC, ht] at hP
      refine lv_if_eq (tgt := 32) hx hb dXW_has_25 (by decide) (fun c18 => ?_) (fun c18 => ?_)
      · replace h := h.1 c18
        refine lv_iconst (v := 0) hx hb dXW_has_32 (by decide) ?_
        exact W.zret hx hb hr rfl (fun t ht hW => ⟨⟨_, _, rfl, h, by rw [fxC, ht]; exact hP⟩, hS.F ht⟩) hS.2.2 dXW_has_33 hlocks
      · replace h := h.2 c18
        refine lv_iconst (v := 1) hx hb dXW_has_28 (by decide) ?_
        refine lv_goto (tgt := 33) hx hb dXW_has_29 (by decide) ?_
        exact W.zret hx hb hr rfl (fun t ht hW => ⟨⟨_, _, rfl, h, by rw [fxC, ht]; exact hP⟩, hS.F ht⟩) hS.2.2 dXW_has_33 hlocks
set_option maxRecDepth 100000 in
set_option maxHeartbeats 4000000 in
theorem cKXW_has {l : Launch} {D : va_G} {ca : Nat → Nat} {A : Nat → Prop} {post : Int32 → fh_T → Prop} {w : fh_T} {a0 : Nat} {a1 : Int32} {a2 : Int64} (h : wKXW_has post w a0 a1 a2) : Met l yXW_has (.code yXW_has cXW_has 5 (some .boolean) :: lg_tbl) ({ frames := 2, cells := 0, slots := 0, locals := 43 } : Room) (va_Pc [.ref a0, .int a1, .long a2] (kB D ca A w)) (va_Qi post (fxC (fh_ok D ca A)) A) 0 0 A := by
  refine fx_start (by decide +kernel) (Nat.le_of_ble_eq_true rfl) ?_
  intro p e s m below meth c ls hx hb hr hml hown hts hlocks hnm hB hl
  exact sKXW_has_in ⟨hx, hb, hr, hml, hown, hts, hlocks, hB.2.2.1, hB.2.2.2.1, hB.2.2.2.2, hB.2.1, hnm⟩ w a0 a1 a2 h _ _ ls hB.1 va_S.rf hl
def wKXW_memberAt (post : Option Nat → fh_T → Prop) (w : fh_T) (a0 : Nat) (a1 : Int32) (a2 : Int32) : Prop := (∃ fs2, w a0 = some (.inr (1, fs2)) ∧ (wKXW_replicaAt (fun r1 w_1 => ((r1 = none → (post none w_1)) ∧ (∀ y4, r1 = some y4 → (∃ x5, fh_g w_1 y4 4 1 (.ref x5) ∧ (∃ fs8, w_1 x5 = some (.inr (3, fs8)) ∧ (wKXRo_at (fun r7 w_7 => ((r7 = none → (post none w_7)) ∧ (∀ y10, r7 = some y10 → (post (some y10) w_7)))) w_1 x5 a2)))))) w a0 a1))
set_option maxRecDepth 100000 in
set_option maxHeartbeats 4000000 in
theorem sKXW_memberAt_in {p : Program} {l : Launch} {e : Env} {s : State} {m : MethodId} {args : Array Value} {below : List Frame} {meth : Method} {c : Code} {D : va_G} {ca : Nat → Nat} {A : Nat → Prop} {post : Option Nat → fh_T → Prop} (C0 : kCx p s m args meth c D ca A RXW cXW_memberAt 4 (some (.object "HashLinkedWeb$Member")) "memberAt") : ∀ (w : fh_T) (a0 : Nat) (a1 : Int32) (a2 : Int32), wKXW_memberAt post w a0 a1 a2 → ∀ (H : Heap) (locs : List Loc) (ls : Array Slot), fh_ok D ca A w H → va_S A s.heap H locs → lv_has ls 4 [(0, .ref a0), (1, .int a1), (2, .int a2)] → W p l e ({ frames := 1, cells := 0, slots := 0, locals := 21 } : Room) s m args below meth c H locs 0 0 (MQ below (va_Qe (fun x => x) post (fxC (fh_ok D ca A)) A) args s 0 0 A) (F0 m 0 ls []) := by
  obtain ⟨hx, hb, hr, hml, hown, hts, hlocks, hK, hN, hE, hA, hin⟩ := id C0
  intro w a0 a1 a2 h H locs ls hP hS hl
  replace h : (∃ fs2, w a0 = some (.inr (1, fs2)) ∧ (wKXW_replicaAt (fun r1 w_1 => ((r1 = none → (post none w_1)) ∧ (∀ y4, r1 = some y4 → (∃ x5, fh_g w_1 y4 4 1 (.ref x5) ∧ (∃ fs8, w_1 x5 = some (.inr (3, fs8)) ∧ (wKXRo_at (fun r7 w_7 => ((r7 = none → (post none w_7)) ∧ (∀ y10, r7 = some y10 → (post (some y10) w_7)))) w_1 x5 a2)))))) w a0 a1)) := h
  refine lv_aload_n hx hb dXW_memberAt_0 rfl (lv_at hl 0 rfl) ?_
  refine lv_iload_n hx hb dXW_memberAt_1 rfl (lv_at hl 1 rfl) ?_
  obtain ⟨fs2, g3, h⟩ := h
  refine va_calle (va_runV (As := [.int a1]) (rest := []) ⟨hx, hb, hml, hown, hts⟩ (cKXW_replicaAt h) (gc_XW_35 hts hN ⟨Nat.le_of_ble_eq_true rfl, Nat.le_of_ble_eq_true rfl⟩) (k_preV g3 rfl hP hS hA hK hN hE) rfl rfl hl.1 rfl (lv_room (Nat.le_of_ble_eq_true rfl)) dXW_memberAt_2 ⟨Nat.le_of_ble_eq_true rfl, Nat.le_of_ble_eq_true rfl⟩) hS (fun _ _ q => q) (fun _ q => q) (fun r1 w_1 t H locs ht hvm h hP hz hk hS => ?_)
  rw [fxC, ht] at hP
  rcases e12 : r1 with _ | y4
  · replace h := h.1 e12
    subst e12
    refine lv_astore_nN (lv' := [(3, .null), (0, .ref a0), (1, .int a1), (2, .int a2)]) hx hb dXW_memberAt_5 rfl hl (by decide) rfl (fun ls hl => ?_)
    refine lv_aload_nN hx hb dXW_memberAt_6 rfl (lv_at hl 0 rfl) ?_
    refine lv_ifnonnullN hx hb dXW_memberAt_7 ?_
    refine lv_null hx hb dXW_memberAt_10 ?_
    refine lv_goto (tgt := 22) hx hb dXW_memberAt_11 (by decide) ?_
    exact W.aret hx hb hr (Or.inl ⟨_, rfl⟩) (Or.inl rfl) (fun t ht hW => ⟨⟨none, _, rfl, h, by rw [fxC, ht]; exact hP⟩, hS.F ht⟩) hS.2.2 dXW_memberAt_22 hlocks
  · replace h := h.2 y4 e12
    subst e12
    refine lv_astore_n (lv' := [(3, .ref y4), (0, .ref a0), (1, .int a1), (2, .int a2)]) hx hb dXW_memberAt_5 rfl hl (by decide) rfl (fun ls hl => ?_)
    refine lv_aload_n hx hb dXW_memberAt_6 rfl (lv_at hl 0 rfl) ?_
    refine lv_ifnonnull (tgt := 14) hx hb dXW_memberAt_7 (by decide) ?_
    refine lv_aload_n hx hb dXW_memberAt_14 rfl (lv_at hl 0 rfl) ?_
    obtain ⟨x5, g6, h⟩ := h
    refine kg_XW_108 hx hb hown hts hN hK hP g6 dXW_memberAt_15 ?_
    refine lv_iload_n hx hb dXW_memberAt_18 rfl (lv_at hl 3 rfl) ?_
    obtain ⟨fs8, g9, h⟩ := h
    refine va_calle (va_runV (As := [.int a2]) (rest := []) ⟨hx, hb, hml, hown, hts⟩ (cKXRo_at h) (gc_XW_155 hts hN ⟨Nat.le_of_ble_eq_true rfl, Nat.le_of_ble_eq_true rfl⟩) (k_preV g9 rfl hP hS hA hK hN hE) rfl rfl hl.1 rfl (lv_room (Nat.le_of_ble_eq_true rfl)) dXW_memberAt_19 ⟨Nat.le_of_ble_eq_true rfl, Nat.le_of_ble_eq_true rfl⟩) hS (fun _ _ q => q) (fun _ q => q) (fun r7 w_7 t H locs ht hvm h hP hz hk hS => ?_)
    rw [fxC, ht] at hP
    rcases e11 : r7 with _ | y10
    · replace h := h.1 e11
      subst e11
      exact W.aret hx hb hr (Or.inl ⟨_, rfl⟩) (Or.inl rfl) (fun t ht hW => ⟨⟨none, _, rfl, h, by rw [fxC, ht]; exact hP⟩, hS.F ht⟩) hS.2.2 dXW_memberAt_22 hlocks
    · replace h := h.2 y10 e11
      subst e11
      exact W.aret hx hb hr (Or.inl ⟨_, rfl⟩) (Or.inr ⟨_, rfl⟩) (fun t ht hW => ⟨⟨(some y10), _, rfl, h, by rw [fxC, ht]; exact hP⟩, hS.F ht⟩) hS.2.2 dXW_memberAt_22 hlocks
set_option maxRecDepth 100000 in
set_option maxHeartbeats 4000000 in
theorem cKXW_memberAt {l : Launch} {D : va_G} {ca : Nat → Nat} {A : Nat → Prop} {post : Option Nat → fh_T → Prop} {w : fh_T} {a0 : Nat} {a1 : Int32} {a2 : Int32} (h : wKXW_memberAt post w a0 a1 a2) : Met l yXW_memberAt (.code yXW_memberAt cXW_memberAt 4 (some (.object "HashLinkedWeb$Member")) :: lg_tbl) ({ frames := 1, cells := 0, slots := 0, locals := 21 } : Room) (va_Pc [.ref a0, .int a1, .int a2] (kB D ca A w)) (va_Qe (fun x => x) post (fxC (fh_ok D ca A)) A) 0 0 A := by
  refine fx_start (by decide +kernel) (Nat.le_of_ble_eq_true rfl) ?_
  intro p e s m below meth c ls hx hb hr hml hown hts hlocks hnm hB hl
  exact sKXW_memberAt_in ⟨hx, hb, hr, hml, hown, hts, hlocks, hB.2.2.1, hB.2.2.2.1, hB.2.2.2.2, hB.2.1, hnm⟩ w a0 a1 a2 h _ _ ls hB.1 va_S.rf hl
def wKXW_hashAt (post : Int64 → fh_T → Prop) (w : fh_T) (a0 : Nat) (a1 : Int32) (a2 : Int32) : Prop := (∃ fs2, w a0 = some (.inr (1, fs2)) ∧ (wKXW_memberAt (fun r1 w_1 => ((r1 = none → (post 0 w_1)) ∧ (∀ y4, r1 = some y4 → (∃ x5, fh_g w_1 y4 7 0 (.ref x5) ∧ (∃ x7, fh_g w_1 x5 5 5 (.long x7) ∧ (post x7 w_1)))))) w a0 a1 a2))
set_option maxRecDepth 100000 in
set_option maxHeartbeats 4000000 in
theorem sKXW_hashAt_in {p : Program} {l : Launch} {e : Env} {s : State} {m : MethodId} {args : Array Value} {below : List Frame} {meth : Method} {c : Code} {D : va_G} {ca : Nat → Nat} {A : Nat → Prop} {post : Int64 → fh_T → Prop} (C0 : kCx p s m args meth c D ca A RXW cXW_hashAt 4 (some .long) "hashAt") : ∀ (w : fh_T) (a0 : Nat) (a1 : Int32) (a2 : Int32), wKXW_hashAt post w a0 a1 a2 → ∀ (H : Heap) (locs : List Loc) (ls : Array Slot), fh_ok D ca A w H → va_S A s.heap H locs → lv_has ls 4 [(0, .ref a0), (1, .int a1), (2, .int a2)] → W p l e ({ frames := 2, cells := 0, slots := 0, locals := 44 } : Room) s m args below meth c H locs 0 0 (MQ below (va_Ql post (fxC (fh_ok D ca A)) A) args s 0 0 A) (F0 m 0 ls []) := by
  obtain ⟨hx, hb, hr, hml, hown, hts, hlocks, hK, hN, hE, hA, hin⟩ := id C0
  intro w a0 a1 a2 h H locs ls hP hS hl
  replace h : (∃ fs2, w a0 = some (.inr (1, fs2)) ∧ (wKXW_memberAt (fun r1 w_1 => ((r1 = none → (post 0 w_1)) ∧ (∀ y4, r1 = some y4 → (∃ x5, fh_g w_1 y4 7 0 (.ref x5) ∧ (∃ x7, fh_g w_1 x5 5 5 (.long x7) ∧ (post x7 w_1)))))) w a0 a1 a2)) := h
  refine lv_aload_n hx hb dXW_hashAt_0 rfl (lv_at hl 0 rfl) ?_
  refine lv_iload_n hx hb dXW_hashAt_1 rfl (lv_at hl 1 rfl) ?_
  refine lv_iload_n hx hb dXW_hashAt_2 rfl (lv_at hl 2 rfl) ?_
  obtain ⟨fs2, g3, h⟩ := h
  refine va_calle (va_runV (As := [.int a1, .int a2]) (rest := []) ⟨hx, hb, hml, hown, hts⟩ (cKXW_memberAt h) (gc_XW_119 hts hN ⟨Nat.le_of_ble_eq_true rfl, Nat.le_of_ble_eq_true rfl⟩) (k_preV g3 rfl hP hS hA hK hN hE) rfl rfl hl.1 rfl (lv_room (Nat.le_of_ble_eq_true rfl)) dXW_hashAt_3 ⟨Nat.le_of_ble_eq_true rfl, Nat.le_of_ble_eq_true rfl⟩) hS (fun _ _ q => q) (fun _ q => q) (fun r1 w_1 t H locs ht hvm h hP hz hk hS => ?_)
  rw [fxC, ht] at hP
  rcases e9 : r1 with _ | y4
  · replace h := h.1 e9
    subst e9
    refine lv_astore_nN (lv' := [(3, .null), (0, .ref a0), (1, .int a1), (2, .int a2)]) hx hb dXW_hashAt_6 rfl hl (by decide) rfl (fun ls hl => ?_)
    refine lv_aload_nN hx hb dXW_hashAt_7 rfl (lv_at hl 0 rfl) ?_
    refine lv_ifnonnullN hx hb dXW_hashAt_8 ?_
    refine lv_lconst (v := 0) hx hb dXW_hashAt_11 (by decide) ?_
    refine lv_goto (tgt := 22) hx hb dXW_hashAt_12 (by decide) ?_
    exact W.lret hx hb hr (fun t ht hW => ⟨⟨_, _, rfl, h, by rw [fxC, ht]; exact hP⟩, hS.F ht⟩) hS.2.2 dXW_hashAt_22 hlocks
  · replace h := h.2 y4 e9
    subst e9
    refine lv_astore_n (lv' := [(3, .ref y4), (0, .ref a0), (1, .int a1), (2, .int a2)]) hx hb dXW_hashAt_6 rfl hl (by decide) rfl (fun ls hl => ?_)
    refine lv_aload_n hx hb dXW_hashAt_7 rfl (lv_at hl 0 rfl) ?_
    refine lv_ifnonnull (tgt := 15) hx hb dXW_hashAt_8 (by decide) ?_
    refine lv_aload_n hx hb dXW_hashAt_15 rfl (lv_at hl 0 rfl) ?_
    obtain ⟨x5, g6, h⟩ := h
    refine kg_XW_123 hx hb hown hts hN hK hP g6 dXW_hashAt_16 ?_
    obtain ⟨x7, g8, h⟩ := h
    refine kg_XW_75 hx hb hown hts hN hK hP g8 dXW_hashAt_19 ?_
    exact W.lret hx hb hr (fun t ht hW => ⟨⟨_, _, rfl, h, by rw [fxC, ht]; exact hP⟩, hS.F ht⟩) hS.2.2 dXW_hashAt_22 hlocks
set_option maxRecDepth 100000 in
set_option maxHeartbeats 4000000 in
theorem cKXW_hashAt {l : Launch} {D : va_G} {ca : Nat → Nat} {A : Nat → Prop} {post : Int64 → fh_T → Prop} {w : fh_T} {a0 : Nat} {a1 : Int32} {a2 : Int32} (h : wKXW_hashAt post w a0 a1 a2) : Met l yXW_hashAt (.code yXW_hashAt cXW_hashAt 4 (some .long) :: lg_tbl) ({ frames := 2, cells := 0, slots := 0, locals := 44 } : Room) (va_Pc [.ref a0, .int a1, .int a2] (kB D ca A w)) (va_Ql post (fxC (fh_ok D ca A)) A) 0 0 A := by
  refine fx_start (by decide +kernel) (Nat.le_of_ble_eq_true rfl) ?_
  intro p e s m below meth c ls hx hb hr hml hown hts hlocks hnm hB hl
  exact sKXW_hashAt_in ⟨hx, hb, hr, hml, hown, hts, hlocks, hB.2.2.1, hB.2.2.2.1, hB.2.2.2.2, hB.2.1, hnm⟩ w a0 a1 a2 h _ _ ls hB.1 va_S.rf hl
def wKXW_about (post : Int32 → fh_T → Prop) (w : fh_T) (a0 : Nat) (a1 : Int32) (a2 : Int32) (a3 : Int32) : Prop := (∃ fs2, w a0 = some (.inr (1, fs2)) ∧ (wKXW_memberAt (fun r1 w_1 => ((r1 = none → (post (-1) w_1)) ∧ (∀ y4, r1 = some y4 → ((a3 = 0 → (∃ x5, fh_g w_1 y4 7 0 (.ref x5) ∧ (∃ x7, fh_g w_1 x5 5 0 (.int x7) ∧ (post x7 w_1)))) ∧ (a3 = 1 → (∃ x9, fh_g w_1 y4 7 0 (.ref x9) ∧ (∃ x11, fh_g w_1 x9 5 1 (.int x11) ∧ (post x11 w_1)))) ∧ (a3 = 2 → (∃ x13, fh_g w_1 y4 7 0 (.ref x13) ∧ (∃ x15, fh_g w_1 x13 5 2 (.int x15) ∧ (post x15 w_1)))) ∧ (a3 = 3 → (∃ x17, fh_g w_1 y4 7 0 (.ref x17) ∧ (∃ x19, fh_g w_1 x17 5 3 (.int x19) ∧ (post x19 w_1)))) ∧ (a3 = 4 → (∃ x21, fh_g w_1 y4 7 0 (.ref x21) ∧ (∃ x23, fh_g w_1 x21 5 4 (.ref x23) ∧ (∃ n25 z26, w_1 x23 = some (.inl (2, n25, z26)) ∧ (post (nI n25) w_1))))) ∧ (a3 = 5 → (∃ x28, fh_g w_1 y4 7 2 (.int x28) ∧ (post x28 w_1))) ∧ (¬ a3 = 0 ∧ ¬ a3 = 1 ∧ ¬ a3 = 2 ∧ ¬ a3 = 3 ∧ ¬ a3 = 4 ∧ ¬ a3 = 5 → (post (-1) w_1)))))) w a0 a1 a2))
set_option maxRecDepth 100000 in
set_option maxHeartbeats 4000000 in
theorem sKXW_about_in {p : Program} {l : Launch} {e : Env} {s : State} {m : MethodId} {args : Array Value} {below : List Frame} {meth : Method} {c : Code} {D : va_G} {ca : Nat → Nat} {A : Nat → Prop} {post : Int32 → fh_T → Prop} (C0 : kCx p s m args meth c D ca A RXW cXW_about 5 (some .int) "about") : ∀ (w : fh_T) (a0 : Nat) (a1 : Int32) (a2 : Int32) (a3 : Int32), wKXW_about post w a0 a1 a2 a3 → ∀ (H : Heap) (locs : List Loc) (ls : Array Slot), fh_ok D ca A w H → va_S A s.heap H locs → lv_has ls 5 [(0, .ref a0), (1, .int a1), (2, .int a2), (3, .int a3)] → W p l e ({ frames := 2, cells := 0, slots := 0, locals := 44 } : Room) s m args below meth c H locs 0 0 (MQ below (va_Qi post (fxC (fh_ok D ca A)) A) args s 0 0 A) (F0 m 0 ls []) := by
  obtain ⟨hx, hb, hr, hml, hown, hts, hlocks, hK, hN, hE, hA, hin⟩ := id C0
  intro w a0 a1 a2 a3 h H locs ls hP hS hl
  replace h : (∃ fs2, w a0 = some (.inr (1, fs2)) ∧ (wKXW_memberAt (fun r1 w_1 => ((r1 = none → (post (-1) w_1)) ∧ (∀ y4, r1 = some y4 → ((a3 = 0 → (∃ x5, fh_g w_1 y4 7 0 (.ref x5) ∧ (∃ x7, fh_g w_1 x5 5 0 (.int x7) ∧ (post x7 w_1)))) ∧ (a3 = 1 → (∃ x9, fh_g w_1 y4 7 0 (.ref x9) ∧ (∃ x11, fh_g w_1 x9 5 1 (.int x11) ∧ (post x11 w_1)))) ∧ (a3 = 2 → (∃ x13, fh_g w_1 y4 7 0 (.ref x13) ∧ (∃ x15, fh_g w_1 x13 5 2 (.int x15) ∧ (post x15 w_1)))) ∧ (a3 = 3 → (∃ x17, fh_g w_1 y4 7 0 (.ref x17) ∧ (∃ x19, fh_g w_1 x17 5 3 (.int x19) ∧ (post x19 w_1)))) ∧ (a3 = 4 → (∃ x21, fh_g w_1 y4 7 0 (.ref x21) ∧ (∃ x23, fh_g w_1 x21 5 4 (.ref x23) ∧ (∃ n25 z26, w_1 x23 = some (.inl (2, n25, z26)) ∧ (post (nI n25) w_1))))) ∧ (a3 = 5 → (∃ x28, fh_g w_1 y4 7 2 (.int x28) ∧ (post x28 w_1))) ∧ (¬ a3 = 0 ∧ ¬ a3 = 1 ∧ ¬ a3 = 2 ∧ ¬ a3 = 3 ∧ ¬ a3 = 4 ∧ ¬ a3 = 5 → (post (-1) w_1)))))) w a0 a1 a2)) := h
  refine lv_aload_n hx hb dXW_about_0 rfl (lv_at hl 0 rfl) ?_
  refine lv_iload_n hx hb dXW_about_1 rfl (lv_at hl 1 rfl) ?_
  refine lv_iload_n hx hb dXW_about_2 rfl (lv_at hl 2 rfl) ?_
  obtain ⟨fs2, g3, h⟩ := h
  refine va_calle (va_runV (As := [.int a1, .int a2]) (rest := []) ⟨hx, hb, hml, hown, hts⟩ (cKXW_memberAt h) (gc_XW_119 hts hN ⟨Nat.le_of_ble_eq_true rfl, Nat.le_of_ble_eq_true rfl⟩) (k_preV g3 rfl hP hS hA hK hN hE) rfl rfl hl.1 rfl (lv_room (Nat.le_of_ble_eq_true rfl)) dXW_about_3 ⟨Nat.le_of_ble_eq_true rfl, Nat.le_of_ble_eq_true rfl⟩) hS (fun _ _ q => q) (fun _ q => q) (fun r1 w_1 t H locs ht hvm h hP hz hk hS => ?_)
  rw [fxC, ht] at hP
  rcases e30 : r1 with _ | y4
  · replace h := h.1 e30
    subst e30
    refine lv_astoreN (lv' := [(4, .null), (0, .ref a0), (1, .int a1), (2, .int a2), (3, .int a3)]) hx hb dXW_about_6 hl (by decide) rfl (fun ls hl => ?_)
    refine lv_aloadN hx hb dXW_about_8 (lv_at hl 0 rfl) ?_
    refine lv_ifnonnullN hx hb dXW_about_10 ?_
    refine lv_iconst (v := (-1)) hx hb dXW_about_13 (by decide) ?_
    exact W.iret hx hb hr (fun t ht hW => ⟨⟨_, _, rfl, h, by rw [fxC, ht]; exact hP⟩, hS.F ht⟩) hS.2.2 dXW_about_14 hlocks
  · replace h := h.2 y4 e30
    subst e30
    refine lv_astore (lv' := [(4, .ref y4), (0, .ref a0), (1, .int a1), (2, .int a2), (3, .int a3)]) hx hb dXW_about_6 hl (by decide) rfl (fun ls hl => ?_)
    refine lv_aload hx hb dXW_about_8 (lv_at hl 0 rfl) ?_
    refine lv_ifnonnull (tgt := 15) hx hb dXW_about_10 (by decide) ?_
    refine lv_iload_n hx hb dXW_about_15 rfl (lv_at hl 4 rfl) ?_
    by_cases k0 : a3 = 0
    · replace h := h.1 k0
      refine lv_tableIn (off := 40) (tgt := 56) hx hb dXW_about_16 (by rw [k0]; decide) (by rw [k0]; decide) (by rw [k0]; decide) (by decide) ?_
      refine lv_aload hx hb dXW_about_56 (lv_at hl 0 rfl) ?_
      obtain ⟨x5, g6, h⟩ := h
      refine kg_XW_123 hx hb hown hts hN hK hP g6 dXW_about_58 ?_
      obtain ⟨x7, g8, h⟩ := h
      refine kg_XW_129 hx hb hown hts hN hK hP g8 dXW_about_61 ?_
      exact W.iret hx hb hr (fun t ht hW => ⟨⟨_, _, rfl, h, by rw [fxC, ht]; exact hP⟩, hS.F ht⟩) hS.2.2 dXW_about_64 hlocks
    · skip
      by_cases k1 : a3 = 1
      · replace h := h.2.1 k1
        refine lv_tableIn (off := 49) (tgt := 65) hx hb dXW_about_16 (by rw [k1]; decide) (by rw [k1]; decide) (by rw [k1]; decide) (by decide) ?_
        refine lv_aload hx hb dXW_about_65 (lv_at hl 0 rfl) ?_
        obtain ⟨x9, g10, h⟩ := h
        refine kg_XW_123 hx hb hown hts hN hK hP g10 dXW_about_67 ?_
        obtain ⟨x11, g12, h⟩ := h
        refine kg_XW_132 hx hb hown hts hN hK hP g12 dXW_about_70 ?_
        exact W.iret hx hb hr (fun t ht hW => ⟨⟨_, _, rfl, h, by rw [fxC, ht]; exact hP⟩, hS.F ht⟩) hS.2.2 dXW_about_73 hlocks
      · skip
        by_cases k2 : a3 = 2
        · replace h := h.2.2.1 k2
          refine lv_tableIn (off := 58) (tgt := 74) hx hb dXW_about_16 (by rw [k2]; decide) (by rw [k2]; decide) (by rw [k2]; decide) (by decide) ?_
          refine lv_aload hx hb dXW_about_74 (lv_at hl 0 rfl) ?_
          obtain ⟨x13, g14, h⟩ := h
          refine kg_XW_123 hx hb hown hts hN hK hP g14 dXW_about_76 ?_
          obtain ⟨x15, g16, h⟩ := h
          refine kg_XW_135 hx hb hown hts hN hK hP g16 dXW_about_79 ?_
          exact W.iret hx hb hr (fun t ht hW => ⟨⟨_, _, rfl, h, by rw [fxC, ht]; exact hP⟩, hS.F ht⟩) hS.2.2 dXW_about_82 hlocks
        · skip
          by_cases k3 : a3 = 3
          · replace h := h.2.2.2.1 k3
            refine lv_tableIn (off := 67) (tgt := 83) hx hb dXW_about_16 (by rw [k3]; decide) (by rw [k3]; decide) (by rw [k3]; decide) (by decide) ?_
            refine lv_aload hx hb dXW_about_83 (lv_at hl 0 rfl) ?_
            obtain ⟨x17, g18, h⟩ := h
            refine kg_XW_123 hx hb hown hts hN hK hP g18 dXW_about_85 ?_
            obtain ⟨x19, g20, h⟩ := h
            refine kg_XW_138 hx hb hown hts hN hK hP g20 dXW_about_88 ?_
            exact W.iret hx hb hr (fun t ht hW => ⟨⟨_, _, rfl, h, by rw [fxC, ht]; exact hP⟩, hS.F ht⟩) hS.2.2 dXW_about_91 hlocks
          · skip
            by_cases k4 : a3 = 4
            · replace h := h.2.2.2.2.1 k4
              refine lv_tableIn (off := 76) (tgt := 92) hx hb dXW_about_16 (by rw [k4]; decide) (by rw [k4]; decide) (by rw [k4]; decide) (by decide) ?_
              refine lv_aload hx hb dXW_about_92 (lv_at hl 0 rfl) ?_
              obtain ⟨x21, g22, h⟩ := h
              refine kg_XW_123 hx hb hown hts hN hK hP g22 dXW_about_94 ?_
              obtain ⟨x23, g24, h⟩ := h
              refine kg_XW_141 hx hb hown hts hN hK hP g24 dXW_about_97 ?_
              obtain ⟨n25, z26, g27, h⟩ := h
              refine kal 2 rfl rfl hx hb hK hP g27 dXW_about_100 ?_
              exact W.iret hx hb hr (fun t ht hW => ⟨⟨_, _, rfl, h, by rw [fxC, ht]; exact hP⟩, hS.F ht⟩) hS.2.2 dXW_about_101 hlocks
            · skip
              by_cases k5 : a3 = 5
              · replace h := h.2.2.2.2.2.1 k5
                refine lv_tableIn (off := 86) (tgt := 102) hx hb dXW_about_16 (by rw [k5]; decide) (by rw [k5]; decide) (by rw [k5]; decide) (by decide) ?_
                refine lv_aload hx hb dXW_about_102 (lv_at hl 0 rfl) ?_
                obtain ⟨x28, g29, h⟩ := h
                refine kg_XW_145 hx hb hown hts hN hK hP g29 dXW_about_104 ?_
                exact W.iret hx hb hr (fun t ht hW => ⟨⟨_, _, rfl, h, by rw [fxC, ht]; exact hP⟩, hS.F ht⟩) hS.2.2 dXW_about_107 hlocks
              · skip
                replace h := h.2.2.2.2.2.2 ⟨k0, k1, k2, k3, k4, k5⟩
                refine lv_tableOut (tgt := 108) hx hb dXW_about_16 (k_out0_5 k0 k1 k2 k3 k4 k5) (by decide) ?_
                refine lv_iconst (v := (-1)) hx hb dXW_about_108 (by decide) ?_
                exact W.iret hx hb hr (fun t ht hW => ⟨⟨_, _, rfl, h, by rw [fxC, ht]; exact hP⟩, hS.F ht⟩) hS.2.2 dXW_about_109 hlocks
set_option maxRecDepth 100000 in
set_option maxHeartbeats 4000000 in
theorem cKXW_about {l : Launch} {D : va_G} {ca : Nat → Nat} {A : Nat → Prop} {post : Int32 → fh_T → Prop} {w : fh_T} {a0 : Nat} {a1 : Int32} {a2 : Int32} {a3 : Int32} (h : wKXW_about post w a0 a1 a2 a3) : Met l yXW_about (.code yXW_about cXW_about 5 (some .int) :: lg_tbl) ({ frames := 2, cells := 0, slots := 0, locals := 44 } : Room) (va_Pc [.ref a0, .int a1, .int a2, .int a3] (kB D ca A w)) (va_Qi post (fxC (fh_ok D ca A)) A) 0 0 A := by
  refine fx_start (by decide +kernel) (Nat.le_of_ble_eq_true rfl) ?_
  intro p e s m below meth c ls hx hb hr hml hown hts hlocks hnm hB hl
  exact sKXW_about_in ⟨hx, hb, hr, hml, hown, hts, hlocks, hB.2.2.1, hB.2.2.2.1, hB.2.2.2.2, hB.2.1, hnm⟩ w a0 a1 a2 a3 h _ _ ls hB.1 va_S.rf hl
