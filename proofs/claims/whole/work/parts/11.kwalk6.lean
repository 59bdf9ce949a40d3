noncomputable def wKXRe_welcome_8 (post : Int32 → fh_T → Prop) (n : Nat) : fh_T → Nat → Nat → Nat → Int32 → Int32 → Prop := Nat.rec (motive := fun _ => fh_T → Nat → Nat → Nat → Int32 → Int32 → Prop) (fun _ _ _ _ _ _ => False) (fun _ K8 w mc ms v0 v2 v3 => ((10 ≤ v3 → (post v2 w)) ∧ (¬ 10 ≤ v3 → (∃ fs10, w v0 = some (.inr (4, fs10)) ∧ (wKXRe_firstReady (fun r9 w_9 => ((0 ≤ r9 → (∃ x13, fh_g w_9 v0 4 3 (.ref x13) ∧ (∃ fs16, w_9 x13 = some (.inr (9, fs16)) ∧ (wKXAL_remove (fun r15 w_15 => (∃ y18, r15 = some y18 ∧ (∃ fs20, w_15 y18 = some (.inr (5, fs20)) ∧ (∃ fs23, w_15 v0 = some (.inr (4, fs23)) ∧ (∃ a25 b26 mc27 ms28, mc = mc27 + a25 ∧ ms = ms28 + b26 ∧ (wKXRe_receive (fun r22 w_22 => (K8 w_22 mc27 ms28 v0 v2 (v3 + 1))) w_15 a25 b26 v0 y18)))))) w_9 x13 r9)))) ∧ (¬ 0 ≤ r9 → (post v2 w_9)))) w v0))))) n
def wKXRe_welcome (post : Int32 → fh_T → Prop) (w : fh_T) (mc : Nat) (ms : Nat) (a0 : Nat) (a1 : Nat) : Prop := (∃ fs2, w a0 = some (.inr (4, fs2)) ∧ (∃ a4 b5 mc6 ms7, mc = mc6 + a4 ∧ ms = ms7 + b5 ∧ (wKXRe_receive (fun r1 w_1 => (∃ k, wKXRe_welcome_8 post  k w_1 mc6 ms7 a0 r1 0)) w a4 b5 a0 a1)))
set_option maxRecDepth 100000 in
set_option maxHeartbeats 4000000 in
theorem sKXRe_welcome_8 {p : Program} {l : Launch} {e : Env} {s : State} {m : MethodId} {args : Array Value} {below : List Frame} {meth : Method} {c : Code} {D : va_G} {ca : Nat → Nat} {A : Nat → Prop} {MC MS : Nat} {post : Int32 → fh_T → Prop} (C0 : kCx p s m args meth c D ca A RXRe cXRe_welcome 5 (some .int) "welcome") : ∀ (n : Nat) (w : fh_T) (mc : Nat) (ms : Nat) (v0 : Nat) (v2 : Int32) (v3 : Int32), wKXRe_welcome_8 post  n w mc ms v0 v2 v3 → ∀ (H : Heap) (locs : List Loc) (ls : Array Slot), fh_ok D ca A w H → va_S A s.heap H locs → lv_has ls 5 [(0, .ref v0), (2, .int v2), (3, .int v3)] → ∀ cells slots : Nat, cells + mc = MC → slots + ms = MS → W p l e ({ frames := 7, cells := MC, slots := MS, locals := 172 } : Room) s m args below meth c H locs cells slots (MQ below (va_Qi post (fxC (fh_ok D ca A)) A) args s MC MS A) (F0 m 8 ls []) := by
  obtain ⟨hx, hb, hr, hml, hown, hts, hlocks, hK, hN, hE, hA, hin⟩ := id C0
  intro n
  induction n with
  | zero => exact fun _ _ _ _ _ _ h => h.elim
  | succ n hK8 =>
    intro w mc ms v0 v2 v3 h H locs ls hP hS hl cells slots hbc hbs
    replace h : ((10 ≤ v3 → (post v2 w)) ∧ (¬ 10 ≤ v3 → (∃ fs10, w v0 = some (.inr (4, fs10)) ∧ (wKXRe_firstReady (fun r9 w_9 => ((0 ≤ r9 → (∃ x13, fh_g w_9 v0 4 3 (.ref x13) ∧ (∃ fs16, w_9 x13 = some (.inr (9, fs16)) ∧ (wKXAL_remove (fun r15 w_15 => (∃ y18, r15 = some y18 ∧ (∃ fs20, w_15 y18 = some (.inr (5, fs20)) ∧ (∃ fs23, w_15 v0 = some (.inr (4, fs23)) ∧ (∃ a25 b26 mc27 ms28, mc = mc27 + a25 ∧ ms = ms28 + b26 ∧ (wKXRe_receive (fun r22 w_22 => ((wKXRe_welcome_8 post  n) w_22 mc27 ms28 v0 v2 (v3 + 1))) w_15 a25 b26 v0 y18)))))) w_9 x13 r9)))) ∧ (¬ 0 ≤ r9 → (post v2 w_9)))) w v0)))) := h
    refine lv_iload_n hx hb dXRe_welcome_8 rfl (lv_at hl 2 rfl) ?_
    refine lv_bipush (v := 10) hx hb dXRe_welcome_9 (by decide) ?_
    refine lv_icmp_ge (tgt := 51) hx hb dXRe_welcome_11 (by decide) (fun c8 => ?_) (fun c8 => ?_)
    · replace h := h.1 c8
      refine lv_iload_n hx hb dXRe_welcome_51 rfl (lv_at hl 1 rfl) ?_
      refine W.widen (k := MC) (n := MS) (by omega) (by omega) ?_
      exact W.iret hx hb hr (fun t ht hW => ⟨⟨_, _, rfl, h, by rw [fxC, ht]; exact hP⟩, hS.F ht⟩) hS.2.2 dXRe_welcome_52 hlocks
    · replace h := h.2 c8
      refine lv_aload_n hx hb dXRe_welcome_14 rfl (lv_at hl 0 rfl) ?_
      obtain ⟨fs10, g11, h⟩ := h
      refine va_calli (va_runV (As := []) (rest := []) ⟨hx, hb, hml, hown, hts⟩ (cKXRe_firstReady h) (gc_XRe_66 hts hN ⟨Nat.le_of_ble_eq_true rfl, Nat.le_of_ble_eq_true rfl⟩) (k_preV g11 rfl hP hS hA hK hN hE) rfl rfl hl.1 rfl (lv_room (Nat.le_of_ble_eq_true rfl)) dXRe_welcome_15 ⟨show cells + 0 ≤ MC by omega, show slots + 0 ≤ MS by omega⟩) hS (fun _ _ q => q) (fun _ q => q) (fun r9 w_9 t H locs ht hvm h hP hz hk hS => ?_)
      rw [fxC, ht] at hP
      refine W.cs (cells' := cells) (slots' := slots) rfl rfl ?_
      refine lv_istore (lv' := [(4, .int r9), (0, .ref v0), (2, .int v2), (3, .int v3)]) hx hb dXRe_welcome_18 hl (by decide) rfl (fun ls hl => ?_)
      refine lv_iload hx hb dXRe_welcome_20 (lv_at hl 0 rfl) ?_
      refine lv_if_ge (tgt := 28) hx hb dXRe_welcome_22 (by decide) (fun c12 => ?_) (fun c12 => ?_)
      · replace h := h.1 c12
        refine lv_aload_n hx hb dXRe_welcome_28 rfl (lv_at hl 1 rfl) ?_
        refine lv_aload_n hx hb dXRe_welcome_29 rfl (lv_at hl 1 rfl) ?_
        obtain ⟨x13, g14, h⟩ := h
        refine kg_XRe_24 hx hb hown hts hN hK hP g14 dXRe_welcome_30 ?_
        refine lv_iload hx hb dXRe_welcome_33 (lv_at hl 0 rfl) ?_
        obtain ⟨fs16, g17, h⟩ := h
        refine va_calle (va_runV (As := [.int r9]) (rest := [.ref v0]) ⟨hx, hb, hml, hown, hts⟩ (cKXAL_remove h) (gc_XRe_70 hts hN ⟨Nat.le_of_ble_eq_true rfl, Nat.le_of_ble_eq_true rfl⟩) (k_preV g17 rfl hP hS hA hK hN hE) rfl rfl hl.1 rfl (lv_room (Nat.le_of_ble_eq_true rfl)) dXRe_welcome_35 ⟨show cells + 0 ≤ MC by omega, show slots + 0 ≤ MS by omega⟩) hS (fun _ _ q => q) (fun _ q => q) (fun r15 w_15 t H locs ht hvm h hP hz hk hS => ?_)
        rw [fxC, ht] at hP
        refine W.cs (cells' := cells) (slots' := slots) rfl rfl ?_
        obtain ⟨y18, e19, h⟩ := h
        subst e19
        obtain ⟨fs20, g21, h⟩ := h
        refine kcast hx hb hown (hts (.classLink RXRe 47 "HashLinkedWeb$Operation") (fx_m (by decide +kernel))) hN hK hP g21 dXRe_welcome_38 ?_
        obtain ⟨fs23, g24, h⟩ := h
        obtain ⟨a25, b26, mc27, ms28, hm1, hm2, h⟩ := h
        refine va_calli (va_runV (As := [.ref y18]) (rest := []) ⟨hx, hb, hml, hown, hts⟩ (cKXRe_receive h) (gc_XRe_62 hts hN ⟨Nat.le_of_ble_eq_true rfl, Nat.le_of_ble_eq_true rfl⟩) (k_preV g24 rfl hP hS hA hK hN hE) rfl rfl hl.1 rfl (lv_room (Nat.le_of_ble_eq_true rfl)) dXRe_welcome_41 ⟨show cells + a25 ≤ MC by omega, show slots + b26 ≤ MS by omega⟩) hS (fun _ _ q => q) (fun _ q => q) (fun r22 w_22 t H locs ht hvm h hP hz hk hS => ?_)
        rw [fxC, ht] at hP
        refine W.cs (cells' := cells + a25) (slots' := slots + b26) rfl rfl ?_
        replace hbc : cells + a25 + mc27 = MC := by omega
        replace hbs : slots + b26 + ms28 = MS := by omega
        refine lv_pop hx hb dXRe_welcome_44 rfl ?_
        refine lv_iinc (v := v3 + 1) (lv' := [(3, .int (v3 + 1)), (4, .int r9), (0, .ref v0), (2, .int v2)]) hx hb dXRe_welcome_45 hl (k := 3) rfl rfl (by decide) rfl (fun ls hl => ?_)
        refine lv_goto (tgt := 8) hx hb dXRe_welcome_48 (by decide) ?_
        exact hK8 w_22 mc27 ms28 v0 v2 (v3 + 1) h H locs ls hP hS (lv_sub hl [2, 3, 0] rfl) _ _ hbc hbs
      · replace h := h.2 c12
        refine lv_goto (tgt := 51) hx hb dXRe_welcome_25 (by decide) ?_
        refine lv_iload_n hx hb dXRe_welcome_51 rfl (lv_at hl 2 rfl) ?_
        refine W.widen (k := MC) (n := MS) (by omega) (by omega) ?_
        exact W.iret hx hb hr (fun t ht hW => ⟨⟨_, _, rfl, h, by rw [fxC, ht]; exact hP⟩, hS.F ht⟩) hS.2.2 dXRe_welcome_52 hlocks
set_option maxRecDepth 100000 in
set_option maxHeartbeats 4000000 in
theorem sKXRe_welcome_in {p : Program} {l : Launch} {e : Env} {s : State} {m : MethodId} {args : Array Value} {below : List Frame} {meth : Method} {c : Code} {D : va_G} {ca : Nat → Nat} {A : Nat → Prop} {MC MS : Nat} {post : Int32 → fh_T → Prop} (C0 : kCx p s m args meth c D ca A RXRe cXRe_welcome 5 (some .int) "welcome") : ∀ (w : fh_T) (mc : Nat) (ms : Nat) (a0 : Nat) (a1 : Nat), wKXRe_welcome post w mc ms a0 a1 → ∀ (H : Heap) (locs : List Loc) (ls : Array Slot), fh_ok D ca A w H → va_S A s.heap H locs → lv_has ls 5 [(0, .ref a0), (1, .ref a1)] → ∀ cells slots : Nat, cells + mc = MC → slots + ms = MS → W p l e ({ frames := 7, cells := MC, slots := MS, locals := 172 } : Room) s m args below meth c H locs cells slots (MQ below (va_Qi post (fxC (fh_ok D ca A)) A) args s MC MS A) (F0 m 0 ls []) := by
  obtain ⟨hx, hb, hr, hml, hown, hts, hlocks, hK, hN, hE, hA, hin⟩ := id C0
  intro w mc ms a0 a1 h H locs ls hP hS hl cells slots hbc hbs
  replace h : (∃ fs2, w a0 = some (.inr (4, fs2)) ∧ (∃ a4 b5 mc6 ms7, mc = mc6 + a4 ∧ ms = ms7 + b5 ∧ (wKXRe_receive (fun r1 w_1 => (∃ k, wKXRe_welcome_8 post  k w_1 mc6 ms7 a0 r1 0)) w a4 b5 a0 a1))) := h
  refine lv_aload_n hx hb dXRe_welcome_0 rfl (lv_at hl 0 rfl) ?_
  refine lv_aload_n hx hb dXRe_welcome_1 rfl (lv_at hl 1 rfl) ?_
  obtain ⟨fs2, g3, h⟩ := h
  obtain ⟨a4, b5, mc6, ms7, hm1, hm2, h⟩ := h
  refine va_calli (va_runV (As := [.ref a1]) (rest := []) ⟨hx, hb, hml, hown, hts⟩ (cKXRe_receive h) (gc_XRe_62 hts hN ⟨Nat.le_of_ble_eq_true rfl, Nat.le_of_ble_eq_true rfl⟩) (k_preV g3 rfl hP hS hA hK hN hE) rfl rfl hl.1 rfl (lv_room (Nat.le_of_ble_eq_true rfl)) dXRe_welcome_2 ⟨show cells + a4 ≤ MC by omega, show slots + b5 ≤ MS by omega⟩) hS (fun _ _ q => q) (fun _ q => q) (fun r1 w_1 t H locs ht hvm h hP hz hk hS => ?_)
  rw [fxC, ht] at hP
  refine W.cs (cells' := cells + a4) (slots' := slots + b5) rfl rfl ?_
  replace hbc : cells + a4 + mc6 = MC := by omega
  replace hbs : slots + b5 + ms7 = MS := by omega
  refine lv_istore_n (lv' := [(2, .int r1), (0, .ref a0), (1, .ref a1)]) hx hb dXRe_welcome_5 rfl hl (by decide) rfl (fun ls hl => ?_)
  refine lv_iconst (v := 0) hx hb dXRe_welcome_6 (by decide) ?_
  refine lv_istore_n (lv' := [(3, .int 0), (2, .int r1), (0, .ref a0), (1, .ref a1)]) hx hb dXRe_welcome_7 rfl hl (by decide) rfl (fun ls hl => ?_)
  obtain ⟨k, h⟩ := h
  exact sKXRe_welcome_8  C0  k w_1 mc6 ms7 a0 r1 0 h H locs ls hP hS (lv_sub hl [2, 1, 0] rfl) _ _ hbc hbs
set_option maxRecDepth 100000 in
set_option maxHeartbeats 4000000 in
theorem cKXRe_welcome {l : Launch} {D : va_G} {ca : Nat → Nat} {A : Nat → Prop} {post : Int32 → fh_T → Prop} {w : fh_T} {mc : Nat} {ms : Nat} {a0 : Nat} {a1 : Nat} (h : wKXRe_welcome post w mc ms a0 a1) : Met l yXRe_welcome (.code yXRe_welcome cXRe_welcome 5 (some .int) :: lg_tbl) ({ frames := 7, cells := mc, slots := ms, locals := 172 } : Room) (va_Pc [.ref a0, .ref a1] (kB D ca A w)) (va_Qi post (fxC (fh_ok D ca A)) A) mc ms A := by
  refine fx_start (by decide +kernel) (Nat.le_of_ble_eq_true rfl) ?_
  intro p e s m below meth c ls hx hb hr hml hown hts hlocks hnm hB hl
  exact sKXRe_welcome_in ⟨hx, hb, hr, hml, hown, hts, hlocks, hB.2.2.1, hB.2.2.2.1, hB.2.2.2.2, hB.2.1, hnm⟩ w mc ms a0 a1 h _ _ ls hB.1 va_S.rf hl 0 0 (Nat.zero_add _) (Nat.zero_add _)
noncomputable def wKXW_write_46 (post : Int32 → fh_T → Prop) (n : Nat) : fh_T → Nat → Nat → Nat → Nat → Int32 → Int32 → Prop := Nat.rec (motive := fun _ => fh_T → Nat → Nat → Nat → Nat → Int32 → Int32 → Prop) (fun _ _ _ _ _ _ _ => False) (fun _ K46 w mc ms v0 v5 v6 v7 => ((v6 ≤ v7 → (∃ x16, fh_g w v0 1 3 (.ref x16) ∧ (∃ fs19, w x16 = some (.inr (6, fs19)) ∧ (∃ a21 b22 mc23 ms24, mc = mc23 + a21 ∧ ms = ms24 + b22 ∧ (wKXDr_finished (fun r18 w_18 => (∃ y25, r18 = some y25 ∧ (∃ fs28, w_18 v5 = some (.inr (4, fs28)) ∧ (∃ a30 b31 mc32 ms33, mc23 = mc32 + a30 ∧ ms24 = ms33 + b31 ∧ (wKXRe_welcome (fun r27 w_27 => (post r27 w_27)) w_18 a30 b31 v5 y25))))) w a21 b22 x16))))) ∧ (¬ v6 ≤ v7 → (∃ x34, fh_g w v0 1 3 (.ref x34) ∧ (wKXW_headHash (fun r36 w_36 => (∃ fs38, w_36 x34 = some (.inr (6, fs38)) ∧ (wKXDr_append (fun r37 w_37 => (K46 w_37 mc ms v0 v5 v6 (v7 + 1))) w_36 x34 r36))) w v5 v7))))) n
def wKXW_write (post : Int32 → fh_T → Prop) (w : fh_T) (mc : Nat) (ms : Nat) (a0 : Nat) (a1 : Int32) (a2 : Int32) (a3 : Int32) (a4 : Int32) : Prop := (∃ fs2, w a0 = some (.inr (1, fs2)) ∧ (wKXW_replicaAt (fun r1 w_1 => ((r1 = none → (post (-1) w_1)) ∧ (∀ y4, r1 = some y4 → (∃ x5, fh_g w_1 a0 1 3 (.ref x5) ∧ (∃ fs8, w_1 x5 = some (.inr (6, fs8)) ∧ (wKXDr_begin (fun w_7 => (∃ x10, fh_g w_7 y4 4 2 (.ref x10) ∧ (∃ x12, fh_g w_7 x10 3 1 (.int x12) ∧ (∃ k, wKXW_write_46 post  k w_7 mc ms a0 y4 x12 (if 0 < (x12 - 4) then (x12 - 4) else 0))))) w_1 x5 a1 a2 a3 a4)))))) w a0 a1))
set_option maxRecDepth 100000 in
set_option maxHeartbeats 4000000 in
theorem sKXW_write_46 {p : Program} {l : Launch} {e : Env} {s : State} {m : MethodId} {args : Array Value} {below : List Frame} {meth : Method} {c : Code} {D : va_G} {ca : Nat → Nat} {A : Nat → Prop} {MC MS : Nat} {post : Int32 → fh_T → Prop} (C0 : kCx p s m args meth c D ca A RXW cXW_write 8 (some .int) "write") : ∀ (n : Nat) (w : fh_T) (mc : Nat) (ms : Nat) (v0 : Nat) (v5 : Nat) (v6 : Int32) (v7 : Int32), wKXW_write_46 post  n w mc ms v0 v5 v6 v7 → ∀ (H : Heap) (locs : List Loc) (ls : Array Slot), fh_ok D ca A w H → va_S A s.heap H locs → lv_has ls 8 [(0, .ref v0), (5, .ref v5), (6, .int v6), (7, .int v7)] → ∀ cells slots : Nat, cells + mc = MC → slots + ms = MS → W p l e ({ frames := 8, cells := MC, slots := MS, locals := 196 } : Room) s m args below meth c H locs cells slots (MQ below (va_Qi post (fxC (fh_ok D ca A)) A) args s MC MS A) (F0 m 46 ls []) := by
  obtain ⟨hx, hb, hr, hml, hown, hts, hlocks, hK, hN, hE, hA, hin⟩ := id C0
  intro n
  induction n with
  | zero => exact fun _ _ _ _ _ _ _ h => h.elim
  | succ n hK46 =>
    intro w mc ms v0 v5 v6 v7 h H locs ls hP hS hl cells slots hbc hbs
    replace h : ((v6 ≤ v7 → (∃ x16, fh_g w v0 1 3 (.ref x16) ∧ (∃ fs19, w x16 = some (.inr (6, fs19)) ∧ (∃ a21 b22 mc23 ms24, mc = mc23 + a21 ∧ ms = ms24 + b22 ∧ (wKXDr_finished (fun r18 w_18 => (∃ y25, r18 = some y25 ∧ (∃ fs28, w_18 v5 = some (.inr (4, fs28)) ∧ (∃ a30 b31 mc32 ms33, mc23 = mc32 + a30 ∧ ms24 = ms33 + b31 ∧ (wKXRe_welcome (fun r27 w_27 => (post r27 w_27)) w_18 a30 b31 v5 y25))))) w a21 b22 x16))))) ∧ (¬ v6 ≤ v7 → (∃ x34, fh_g w v0 1 3 (.ref x34) ∧ (wKXW_headHash (fun r36 w_36 => (∃ fs38, w_36 x34 = some (.inr (6, fs38)) ∧ (wKXDr_append (fun r37 w_37 => ((wKXW_write_46 post  n) w_37 mc ms v0 v5 v6 (v7 + 1))) w_36 x34 r36))) w v5 v7)))) := h
    refine lv_iload hx hb dXW_write_46 (lv_at hl 3 rfl) ?_
    refine lv_iload hx hb dXW_write_48 (lv_at hl 2 rfl) ?_
    refine lv_icmp_ge (tgt := 74) hx hb dXW_write_50 (by decide) (fun c15 => ?_) (fun c15 => ?_)
    · replace h := h.1 c15
      refine lv_aload hx hb dXW_write_74 (lv_at hl 1 rfl) ?_
      refine lv_aload_n hx hb dXW_write_76 rfl (lv_at hl 0 rfl) ?_
      obtain ⟨x16, g17, h⟩ := h
      refine kg_XW_32 hx hb hown hts hN hK hP g17 dXW_write_77 ?_
      obtain ⟨fs19, g20, h⟩ := h
      obtain ⟨a21, b22, mc23, ms24, hm1, hm2, h⟩ := h
      refine va_calle (va_runV (As := []) (rest := [.ref v5]) ⟨hx, hb, hml, hown, hts⟩ (cKXDr_finished h) (gc_XW_67 hts hN ⟨Nat.le_of_ble_eq_true rfl, Nat.le_of_ble_eq_true rfl⟩) (k_preV g20 rfl hP hS hA hK hN hE) rfl rfl hl.1 rfl (lv_room (Nat.le_of_ble_eq_true rfl)) dXW_write_80 ⟨show cells + a21 ≤ MC by omega, show slots + b22 ≤ MS by omega⟩) hS (fun _ _ q => q) (fun _ q => q) (fun r18 w_18 t H locs ht hvm h hP hz hk hS => ?_)
      rw [fxC, ht] at hP
      refine W.cs (cells' := cells + a21) (slots' := slots + b22) rfl rfl ?_
      replace hbc : cells + a21 + mc23 = MC := by omega
      replace hbs : slots + b22 + ms24 = MS := by omega
      obtain ⟨y25, e26, h⟩ := h
      subst e26
      obtain ⟨fs28, g29, h⟩ := h
      obtain ⟨a30, b31, mc32, ms33, hm1, hm2, h⟩ := h
      refine va_calli (va_runV (As := [.ref y25]) (rest := []) ⟨hx, hb, hml, hown, hts⟩ (cKXRe_welcome h) (gc_XW_71 hts hN ⟨Nat.le_of_ble_eq_true rfl, Nat.le_of_ble_eq_true rfl⟩) (k_preV g29 rfl hP hS hA hK hN hE) rfl rfl hl.1 rfl (lv_room (Nat.le_of_ble_eq_true rfl)) dXW_write_83 ⟨show cells + a21 + a30 ≤ MC by omega, show slots + b22 + b31 ≤ MS by omega⟩) hS (fun _ _ q => q) (fun _ q => q) (fun r27 w_27 t H locs ht hvm h hP hz hk hS => ?_)
      rw [fxC, ht] at hP
      refine W.cs (cells' := cells + a21 + a30) (slots' := slots + b22 + b31) rfl rfl ?_
      replace hbc : cells + a21 + a30 + mc32 = MC := by omega
      replace hbs : slots + b22 + b31 + ms33 = MS := by omega
      refine W.widen (k := MC) (n := MS) (by omega) (by omega) ?_
      exact W.iret hx hb hr (fun t ht hW => ⟨⟨_, _, rfl, h, by rw [fxC, ht]; exact hP⟩, hS.F ht⟩) hS.2.2 dXW_write_86 hlocks
    · replace h := h.2 c15
      refine lv_aload_n hx hb dXW_write_53 rfl (lv_at hl 0 rfl) ?_
      obtain ⟨x34, g35, h⟩ := h
      refine kg_XW_32 hx hb hown hts hN hK hP g35 dXW_write_54 ?_
      refine lv_aload hx hb dXW_write_57 (lv_at hl 1 rfl) ?_
      refine lv_iload hx hb dXW_write_59 (lv_at hl 3 rfl) ?_
      refine va_calll (va_runS (As := [.ref v5, .int v7]) (rest := [.ref x34]) ⟨hx, hb, hml, hown, hts⟩ (cKXW_headHash h) (gc_XW_59 hts hN ⟨Nat.le_of_ble_eq_true rfl, Nat.le_of_ble_eq_true rfl⟩) (k_preS hP hS hA hK hN hE) rfl rfl hl.1 rfl (lv_room (Nat.le_of_ble_eq_true rfl)) dXW_write_61 ⟨show cells + 0 ≤ MC by omega, show slots + 0 ≤ MS by omega⟩) hS (fun _ _ q => q) (fun _ q => q) (fun r36 w_36 t H locs ht hvm h hP hz hk hS => ?_)
      rw [fxC, ht] at hP
      refine W.cs (cells' := cells) (slots' := slots) rfl rfl ?_
      obtain ⟨fs38, g39, h⟩ := h
      refine va_calli (va_runV (As := [.long r36]) (rest := []) ⟨hx, hb, hml, hown, hts⟩ (cKXDr_append h) (gc_XW_63 hts hN ⟨Nat.le_of_ble_eq_true rfl, Nat.le_of_ble_eq_true rfl⟩) (k_preV g39 rfl hP hS hA hK hN hE) rfl rfl hl.1 rfl (lv_room (Nat.le_of_ble_eq_true rfl)) dXW_write_64 ⟨show cells + 0 ≤ MC by omega, show slots + 0 ≤ MS by omega⟩) hS (fun _ _ q => q) (fun _ q => q) (fun r37 w_37 t H locs ht hvm h hP hz hk hS => ?_)
      rw [fxC, ht] at hP
      refine W.cs (cells' := cells) (slots' := slots) rfl rfl ?_
      refine lv_pop hx hb dXW_write_67 rfl ?_
      refine lv_iinc (v := v7 + 1) (lv' := [(7, .int (v7 + 1)), (0, .ref v0), (5, .ref v5), (6, .int v6)]) hx hb dXW_write_68 hl (k := 3) rfl rfl (by decide) rfl (fun ls hl => ?_)
      refine lv_goto (tgt := 46) hx hb dXW_write_71 (by decide) ?_
      exact hK46 w_37 mc ms v0 v5 v6 (v7 + 1) h H locs ls hP hS (lv_sub hl [1, 2, 3, 0] rfl) _ _ hbc hbs
set_option maxRecDepth 100000 in
set_option maxHeartbeats 4000000 in
theorem sKXW_write_in {p : Program} {l : Launch} {e : Env} {s : State} {m : MethodId} {args : Array Value} {below : List Frame} {meth : Method} {c : Code} {D : va_G} {ca : Nat → Nat} {A : Nat → Prop} {MC MS : Nat} {post : Int32 → fh_T → Prop} (C0 : kCx p s m args meth c D ca A RXW cXW_write 8 (some .int) "write") : ∀ (w : fh_T) (mc : Nat) (ms : Nat) (a0 : Nat) (a1 : Int32) (a2 : Int32) (a3 : Int32) (a4 : Int32), wKXW_write post w mc ms a0 a1 a2 a3 a4 → ∀ (H : Heap) (locs : List Loc) (ls : Array Slot), fh_ok D ca A w H → va_S A s.heap H locs → lv_has ls 8 [(0, .ref a0), (1, .int a1), (2, .int a2), (3, .int a3), (4, .int a4)] → ∀ cells slots : Nat, cells + mc = MC → slots + ms = MS → W p l e ({ frames := 8, cells := MC, slots := MS, locals := 196 } : Room) s m args below meth c H locs cells slots (MQ below (va_Qi post (fxC (fh_ok D ca A)) A) args s MC MS A) (F0 m 0 ls []) := by
  obtain ⟨hx, hb, hr, hml, hown, hts, hlocks, hK, hN, hE, hA, hin⟩ := id C0
  intro w mc ms a0 a1 a2 a3 a4 h H locs ls hP hS hl cells slots hbc hbs
  replace h : (∃ fs2, w a0 = some (.inr (1, fs2)) ∧ (wKXW_replicaAt (fun r1 w_1 => ((r1 = none → (post (-1) w_1)) ∧ (∀ y4, r1 = some y4 → (∃ x5, fh_g w_1 a0 1 3 (.ref x5) ∧ (∃ fs8, w_1 x5 = some (.inr (6, fs8)) ∧ (wKXDr_begin (fun w_7 => (∃ x10, fh_g w_7 y4 4 2 (.ref x10) ∧ (∃ x12, fh_g w_7 x10 3 1 (.int x12) ∧ (∃ k, wKXW_write_46 post  k w_7 mc ms a0 y4 x12 (if 0 < (x12 - 4) then (x12 - 4) else 0))))) w_1 x5 a1 a2 a3 a4)))))) w a0 a1)) := h
  refine lv_aload_n hx hb dXW_write_0 rfl (lv_at hl 0 rfl) ?_
  refine lv_iload_n hx hb dXW_write_1 rfl (lv_at hl 1 rfl) ?_
  obtain ⟨fs2, g3, h⟩ := h
  refine va_calle (va_runV (As := [.int a1]) (rest := []) ⟨hx, hb, hml, hown, hts⟩ (cKXW_replicaAt h) (gc_XW_35 hts hN ⟨Nat.le_of_ble_eq_true rfl, Nat.le_of_ble_eq_true rfl⟩) (k_preV g3 rfl hP hS hA hK hN hE) rfl rfl hl.1 rfl (lv_room (Nat.le_of_ble_eq_true rfl)) dXW_write_2 ⟨show cells + 0 ≤ MC by omega, show slots + 0 ≤ MS by omega⟩) hS (fun _ _ q => q) (fun _ q => q) (fun r1 w_1 t H locs ht hvm h hP hz hk hS => ?_)
  rw [fxC, ht] at hP
  refine W.cs (cells' := cells) (slots' := slots) rfl rfl ?_
  rcases e14 : r1 with _ | y4
  · replace h := h.1 e14
    subst e14
    refine lv_astoreN (lv' := [(5, .null), (0, .ref a0), (1, .int a1), (2, .int a2), (3, .int a3), (4, .int a4)]) hx hb dXW_write_5 hl (by decide) rfl (fun ls hl => ?_)
    refine lv_aloadN hx hb dXW_write_7 (lv_at hl 0 rfl) ?_
    refine lv_ifnonnullN hx hb dXW_write_9 ?_
    refine lv_iconst (v := (-1)) hx hb dXW_write_12 (by decide) ?_
    refine W.widen (k := MC) (n := MS) (by omega) (by omega) ?_
    exact W.iret hx hb hr (fun t ht hW => ⟨⟨_, _, rfl, h, by rw [fxC, ht]; exact hP⟩, hS.F ht⟩) hS.2.2 dXW_write_13 hlocks
  · replace h := h.2 y4 e14
    subst e14
    refine lv_astore (lv' := [(5, .ref y4), (0, .ref a0), (1, .int a1), (2, .int a2), (3, .int a3), (4, .int a4)]) hx hb dXW_write_5 hl (by decide) rfl (fun ls hl => ?_)
    refine lv_aload hx hb dXW_write_7 (lv_at hl 0 rfl) ?_
    refine lv_ifnonnull (tgt := 14) hx hb dXW_write_9 (by decide) ?_
    refine lv_aload_n hx hb dXW_write_14 rfl (lv_at hl 1 rfl) ?_
    obtain ⟨x5, g6, h⟩ := h
    refine kg_XW_32 hx hb hown hts hN hK hP g6 dXW_write_15 ?_
    refine lv_iload_n hx hb dXW_write_18 rfl (lv_at hl 2 rfl) ?_
    refine lv_iload_n hx hb dXW_write_19 rfl (lv_at hl 3 rfl) ?_
    refine lv_iload_n hx hb dXW_write_20 rfl (lv_at hl 4 rfl) ?_
    refine lv_iload hx hb dXW_write_21 (lv_at hl 5 rfl) ?_
    obtain ⟨fs8, g9, h⟩ := h
    refine va_callv (va_runV (As := [.int a1, .int a2, .int a3, .int a4]) (rest := []) ⟨hx, hb, hml, hown, hts⟩ (cKXDr_begin h) (gc_XW_39 hts hN ⟨Nat.le_of_ble_eq_true rfl, Nat.le_of_ble_eq_true rfl⟩) (k_preV g9 rfl hP hS hA hK hN hE) rfl rfl hl.1 rfl (lv_room (Nat.le_of_ble_eq_true rfl)) dXW_write_23 ⟨show cells + 0 ≤ MC by omega, show slots + 0 ≤ MS by omega⟩) hS (fun _ _ q => q) (fun _ q => q) (fun w_7 t H locs ht hvm h hP hz hk hS => ?_)
    rw [fxC, ht] at hP
    refine W.cs (cells' := cells) (slots' := slots) rfl rfl ?_
    refine lv_aload hx hb dXW_write_26 (lv_at hl 0 rfl) ?_
    obtain ⟨x10, g11, h⟩ := h
    refine kg_XW_43 hx hb hown hts hN hK hP g11 dXW_write_28 ?_
    obtain ⟨x12, g13, h⟩ := h
    refine kg_XW_47 hx hb hown hts hN hK hP g13 dXW_write_31 ?_
    refine lv_istore (lv' := [(6, .int x12), (5, .ref y4), (0, .ref a0), (1, .int a1), (2, .int a2), (3, .int a3), (4, .int a4)]) hx hb dXW_write_34 hl (by decide) rfl (fun ls hl => ?_)
    refine lv_iconst (v := 0) hx hb dXW_write_36 (by decide) ?_
    refine lv_iload hx hb dXW_write_37 (lv_at hl 0 rfl) ?_
    refine lv_iconst (v := 4) hx hb dXW_write_39 (by decide) ?_
    refine lv_isub hx hb dXW_write_40 ?_
    refine kmax_XW_53 hx hb (by rw [hml]; exact hl.1.symm) hown hts (Nat.le_of_ble_eq_true rfl) (Nat.le_of_ble_eq_true rfl) (show cells ≤ MC by omega) (show slots ≤ MS by omega) dXW_write_41 ?_
    refine lv_istore (lv' := [(7, .int (if 0 < (x12 - 4) then (x12 - 4) else 0)), (6, .int x12), (5, .ref y4), (0, .ref a0), (1, .int a1), (2, .int a2), (3, .int a3), (4, .int a4)]) hx hb dXW_write_44 hl (by decide) rfl (fun ls hl => ?_)
    obtain ⟨k, h⟩ := h
    exact sKXW_write_46  C0  k w_7 mc ms a0 y4 x12 (if 0 < (x12 - 4) then (x12 - 4) else 0) h H locs ls hP hS (lv_sub hl [3, 2, 1, 0] rfl) _ _ hbc hbs
set_option maxRecDepth 100000 in
set_option maxHeartbeats 4000000 in
theorem cKXW_write {l : Launch} {D : va_G} {ca : Nat → Nat} {A : Nat → Prop} {post : Int32 → fh_T → Prop} {w : fh_T} {mc : Nat} {ms : Nat} {a0 : Nat} {a1 : Int32} {a2 : Int32} {a3 : Int32} {a4 : Int32} (h : wKXW_write post w mc ms a0 a1 a2 a3 a4) : Met l yXW_write (.code yXW_write cXW_write 8 (some .int) :: lg_tbl) ({ frames := 8, cells := mc, slots := ms, locals := 196 } : Room) (va_Pc [.ref a0, .int a1, .int a2, .int a3, .int a4] (kB D ca A w)) (va_Qi post (fxC (fh_ok D ca A)) A) mc ms A := by
  refine fx_start (by decide +kernel) (Nat.le_of_ble_eq_true rfl) ?_
  intro p e s m below meth c ls hx hb hr hml hown hts hlocks hnm hB hl
  exact sKXW_write_in ⟨hx, hb, hr, hml, hown, hts, hlocks, hB.2.2.1, hB.2.2.2.1, hB.2.2.2.2, hB.2.1, hnm⟩ w mc ms a0 a1 a2 a3 a4 h _ _ ls hB.1 va_S.rf hl 0 0 (Nat.zero_add _) (Nat.zero_add _)
def wKXW_draft (post : fh_T → Prop) (w : fh_T) (a0 : Nat) (a1 : Int32) (a2 : Int32) (a3 : Int32) (a4 : Int32) : Prop := (∃ x1, fh_g w a0 1 2 (.ref x1) ∧ (∃ fs4, w x1 = some (.inr (6, fs4)) ∧ (wKXDr_begin (fun w_3 => (post w_3)) w x1 a1 a2 a3 a4)))
set_option maxRecDepth 100000 in
set_option maxHeartbeats 4000000 in
theorem sKXW_draft_in {p : Program} {l : Launch} {e : Env} {s : State} {m : MethodId} {args : Array Value} {below : List Frame} {meth : Method} {c : Code} {D : va_G} {ca : Nat → Nat} {A : Nat → Prop} {post : fh_T → Prop} (C0 : kCx p s m args meth c D ca A RXW cXW_draft 5 none "draft") : ∀ (w : fh_T) (a0 : Nat) (a1 : Int32) (a2 : Int32) (a3 : Int32) (a4 : Int32), wKXW_draft post w a0 a1 a2 a3 a4 → ∀ (H : Heap) (locs : List Loc) (ls : Array Slot), fh_ok D ca A w H → va_S A s.heap H locs → lv_has ls 5 [(0, .ref a0), (1, .int a1), (2, .int a2), (3, .int a3), (4, .int a4)] → W p l e ({ frames := 1, cells := 0, slots := 0, locals := 24 } : Room) s m args below meth c H locs 0 0 (MQ below (va_Qv post (fxC (fh_ok D ca A)) A) args s 0 0 A) (F0 m 0 ls []) := by
  obtain ⟨hx, hb, hr, hml, hown, hts, hlocks, hK, hN, hE, hA, hin⟩ := id C0
  intro w a0 a1 a2 a3 a4 h H locs ls hP hS hl
  replace h : (∃ x1, fh_g w a0 1 2 (.ref x1) ∧ (∃ fs4, w x1 = some (.inr (6, fs4)) ∧ (wKXDr_begin (fun w_3 => (post w_3)) w x1 a1 a2 a3 a4))) := h
  refine lv_aload_n hx hb dXW_draft_0 rfl (lv_at hl 0 rfl) ?_
  obtain ⟨x1, g2, h⟩ := h
  refine kg_XW_28 hx hb hown hts hN hK hP g2 dXW_draft_1 ?_
  refine lv_iload_n hx hb dXW_draft_4 rfl (lv_at hl 1 rfl) ?_
  refine lv_iload_n hx hb dXW_draft_5 rfl (lv_at hl 2 rfl) ?_
  refine lv_iload_n hx hb dXW_draft_6 rfl (lv_at hl 3 rfl) ?_
  refine lv_iload hx hb dXW_draft_7 (lv_at hl 4 rfl) ?_
  obtain ⟨fs4, g5, h⟩ := h
  refine va_callv (va_runV (As := [.int a1, .int a2, .int a3, .int a4]) (rest := []) ⟨hx, hb, hml, hown, hts⟩ (cKXDr_begin h) (gc_XW_39 hts hN ⟨Nat.le_of_ble_eq_true rfl, Nat.le_of_ble_eq_true rfl⟩) (k_preV g5 rfl hP hS hA hK hN hE) rfl rfl hl.1 rfl (lv_room (Nat.le_of_ble_eq_true rfl)) dXW_draft_9 ⟨Nat.le_of_ble_eq_true rfl, Nat.le_of_ble_eq_true rfl⟩) hS (fun _ _ q => q) (fun _ q => q) (fun w_3 t H locs ht hvm h hP hz hk hS => ?_)
  rw [fxC, ht] at hP
  exact W.vret hx hb hr (fun t ht hW => ⟨⟨_, rfl, h, by rw [fxC, ht]; exact hP⟩, hS.F ht⟩) hS.2.2 dXW_draft_12 hlocks
set_option maxRecDepth 100000 in
set_option maxHeartbeats 4000000 in
theorem cKXW_draft {l : Launch} {D : va_G} {ca : Nat → Nat} {A : Nat → Prop} {post : fh_T → Prop} {w : fh_T} {a0 : Nat} {a1 : Int32} {a2 : Int32} {a3 : Int32} {a4 : Int32} (h : wKXW_draft post w a0 a1 a2 a3 a4) : Met l yXW_draft (.code yXW_draft cXW_draft 5 none :: lg_tbl) ({ frames := 1, cells := 0, slots := 0, locals := 24 } : Room) (va_Pc [.ref a0, .int a1, .int a2, .int a3, .int a4] (kB D ca A w)) (va_Qv post (fxC (fh_ok D ca A)) A) 0 0 A := by
  refine fx_start (by decide +kernel) (Nat.le_of_ble_eq_true rfl) ?_
  intro p e s m below meth c ls hx hb hr hml hown hts hlocks hnm hB hl
  exact sKXW_draft_in ⟨hx, hb, hr, hml, hown, hts, hlocks, hB.2.2.1, hB.2.2.2.1, hB.2.2.2.2, hB.2.1, hnm⟩ w a0 a1 a2 a3 a4 h _ _ ls hB.1 va_S.rf hl
def wKXW_link (post : Int32 → fh_T → Prop) (w : fh_T) (a0 : Nat) (a1 : Int64) : Prop := (∃ x1, fh_g w a0 1 2 (.ref x1) ∧ (∃ fs4, w x1 = some (.inr (6, fs4)) ∧ (wKXDr_append (fun r3 w_3 => (narrow .boolean (.int r3) = .int r3 ∧ post r3 w_3)) w x1 a1)))
set_option maxRecDepth 100000 in
set_option maxHeartbeats 4000000 in
theorem sKXW_link_in {p : Program} {l : Launch} {e : Env} {s : State} {m : MethodId} {args : Array Value} {below : List Frame} {meth : Method} {c : Code} {D : va_G} {ca : Nat → Nat} {A : Nat → Prop} {post : Int32 → fh_T → Prop} (C0 : kCx p s m args meth c D ca A RXW cXW_link 3 (some .boolean) "link") : ∀ (w : fh_T) (a0 : Nat) (a1 : Int64), wKXW_link post w a0 a1 → ∀ (H : Heap) (locs : List Loc) (ls : Array Slot), fh_ok D ca A w H → va_S A s.heap H locs → lv_has ls 3 [(0, .ref a0), (1, .long a1)] → W p l e ({ frames := 1, cells := 0, slots := 0, locals := 22 } : Room) s m args below meth c H locs 0 0 (MQ below (va_Qi post (fxC (fh_ok D ca A)) A) args s 0 0 A) (F0 m 0 ls []) := by
  obtain ⟨hx, hb, hr, hml, hown, hts, hlocks, hK, hN, hE, hA, hin⟩ := id C0
  intro w a0 a1 h H locs ls hP hS hl
  replace h : (∃ x1, fh_g w a0 1 2 (.ref x1) ∧ (∃ fs4, w x1 = some (.inr (6, fs4)) ∧ (wKXDr_append (fun r3 w_3 => (narrow .boolean (.int r3) = .int r3 ∧ post r3 w_3)) w x1 a1))) := h
  refine lv_aload_n hx hb dXW_link_0 rfl (lv_at hl 0 rfl) ?_
  obtain ⟨x1, g2, h⟩ := h
  refine kg_XW_28 hx hb hown hts hN hK hP g2 dXW_link_1 ?_
  refine lv_lload_n hx hb dXW_link_4 rfl (lv_at hl 1 rfl) ?_
  obtain ⟨fs4, g5, h⟩ := h
  refine va_calli (va_runV (As := [.long a1]) (rest := []) ⟨hx, hb, hml, hown, hts⟩ (cKXDr_append h) (gc_XW_63 hts hN ⟨Nat.le_of_ble_eq_true rfl, Nat.le_of_ble_eq_true rfl⟩) (k_preV g5 rfl hP hS hA hK hN hE) rfl rfl hl.1 rfl (lv_room (Nat.le_of_ble_eq_true rfl)) dXW_link_5 ⟨Nat.le_of_ble_eq_true rfl, Nat.le_of_ble_eq_true rfl⟩) hS (fun _ _ q => q) (fun _ q => q) (fun r3 w_3 t H locs ht hvm h hP hz hk hS => ?_)
  rw [fxC, ht] at hP
  obtain ⟨hz, h⟩ := h
  exact W.zret hx hb hr hz (fun t ht hW => ⟨⟨_, _, rfl, h, by rw [fxC, ht]; exact hP⟩, hS.F ht⟩) hS.2.2 dXW_link_8 hlocks
set_option maxRecDepth 100000 in
set_option maxHeartbeats 4000000 in
theorem cKXW_link {l : Launch} {D : va_G} {ca : Nat → Nat} {A : Nat → Prop} {post : Int32 → fh_T → Prop} {w : fh_T} {a0 : Nat} {a1 : Int64} (h : wKXW_link post w a0 a1) : Met l yXW_link (.code yXW_link cXW_link 3 (some .boolean) :: lg_tbl) ({ frames := 1, cells := 0, slots := 0, locals := 22 } : Room) (va_Pc [.ref a0, .long a1] (kB D ca A w)) (va_Qi post (fxC (fh_ok D ca A)) A) 0 0 A := by
  refine fx_start (by decide +kernel) (Nat.le_of_ble_eq_true rfl) ?_
  intro p e s m below meth c ls hx hb hr hml hown hts hlocks hnm hB hl
  exact sKXW_link_in ⟨hx, hb, hr, hml, hown, hts, hlocks, hB.2.2.1, hB.2.2.2.1, hB.2.2.2.2, hB.2.1, hnm⟩ w a0 a1 h _ _ ls hB.1 va_S.rf hl
def wKXW_draftHash (post : Int64 → fh_T → Prop) (w : fh_T) (mc : Nat) (ms : Nat) (a0 : Nat) : Prop := (∃ x1, fh_g w a0 1 2 (.ref x1) ∧ (∃ fs4, w x1 = some (.inr (6, fs4)) ∧ (∃ a6 b7 mc8 ms9, mc = mc8 + a6 ∧ ms = ms9 + b7 ∧ (wKXDr_finished (fun r3 w_3 => (∃ y10, r3 = some y10 ∧ (∃ x12, fh_g w_3 y10 5 5 (.long x12) ∧ (post x12 w_3)))) w a6 b7 x1))))
set_option maxRecDepth 100000 in
set_option maxHeartbeats 4000000 in
theorem sKXW_draftHash_in {p : Program} {l : Launch} {e : Env} {s : State} {m : MethodId} {args : Array Value} {below : List Frame} {meth : Method} {c : Code} {D : va_G} {ca : Nat → Nat} {A : Nat → Prop} {MC MS : Nat} {post : Int64 → fh_T → Prop} (C0 : kCx p s m args meth c D ca A RXW cXW_draftHash 1 (some .long) "draftHash") : ∀ (w : fh_T) (mc : Nat) (ms : Nat) (a0 : Nat), wKXW_draftHash post w mc ms a0 → ∀ (H : Heap) (locs : List Loc) (ls : Array Slot), fh_ok D ca A w H → va_S A s.heap H locs → lv_has ls 1 [(0, .ref a0)] → ∀ cells slots : Nat, cells + mc = MC → slots + ms = MS → W p l e ({ frames := 3, cells := MC, slots := MS, locals := 88 } : Room) s m args below meth c H locs cells slots (MQ below (va_Ql post (fxC (fh_ok D ca A)) A) args s MC MS A) (F0 m 0 ls []) := by
  obtain ⟨hx, hb, hr, hml, hown, hts, hlocks, hK, hN, hE, hA, hin⟩ := id C0
  intro w mc ms a0 h H locs ls hP hS hl cells slots hbc hbs
  replace h : (∃ x1, fh_g w a0 1 2 (.ref x1) ∧ (∃ fs4, w x1 = some (.inr (6, fs4)) ∧ (∃ a6 b7 mc8 ms9, mc = mc8 + a6 ∧ ms = ms9 + b7 ∧ (wKXDr_finished (fun r3 w_3 => (∃ y10, r3 = some y10 ∧ (∃ x12, fh_g w_3 y10 5 5 (.long x12) ∧ (post x12 w_3)))) w a6 b7 x1)))) := h
  refine lv_aload_n hx hb dXW_draftHash_0 rfl (lv_at hl 0 rfl) ?_
  obtain ⟨x1, g2, h⟩ := h
  refine kg_XW_28 hx hb hown hts hN hK hP g2 dXW_draftHash_1 ?_
  obtain ⟨fs4, g5, h⟩ := h
  obtain ⟨a6, b7, mc8, ms9, hm1, hm2, h⟩ := h
  refine va_calle (va_runV (As := []) (rest := []) ⟨hx, hb, hml, hown, hts⟩ (cKXDr_finished h) (gc_XW_67 hts hN ⟨Nat.le_of_ble_eq_true rfl, Nat.le_of_ble_eq_true rfl⟩) (k_preV g5 rfl hP hS hA hK hN hE) rfl rfl hl.1 rfl (lv_room (Nat.le_of_ble_eq_true rfl)) dXW_draftHash_4 ⟨show cells + a6 ≤ MC by omega, show slots + b7 ≤ MS by omega⟩) hS (fun _ _ q => q) (fun _ q => q) (fun r3 w_3 t H locs ht hvm h hP hz hk hS => ?_)
  rw [fxC, ht] at hP
  refine W.cs (cells' := cells + a6) (slots' := slots + b7) rfl rfl ?_
  replace hbc : cells + a6 + mc8 = MC := by omega
  replace hbs : slots + b7 + ms9 = MS := by omega
  obtain ⟨y10, e11, h⟩ := h
  subst e11
  obtain ⟨x12, g13, h⟩ := h
  refine kg_XW_75 hx hb hown hts hN hK hP g13 dXW_draftHash_7 ?_
  refine W.widen (k := MC) (n := MS) (by omega) (by omega) ?_
  exact W.lret hx hb hr (fun t ht hW => ⟨⟨_, _, rfl, h, by rw [fxC, ht]; exact hP⟩, hS.F ht⟩) hS.2.2 dXW_draftHash_10 hlocks
set_option maxRecDepth 100000 in
set_option maxHeartbeats 4000000 in
theorem cKXW_draftHash {l : Launch} {D : va_G} {ca : Nat → Nat} {A : Nat → Prop} {post : Int64 → fh_T → Prop} {w : fh_T} {mc : Nat} {ms : Nat} {a0 : Nat} (h : wKXW_draftHash post w mc ms a0) : Met l yXW_draftHash (.code yXW_draftHash cXW_draftHash 1 (some .long) :: lg_tbl) ({ frames := 3, cells := mc, slots := ms, locals := 88 } : Room) (va_Pc [.ref a0] (kB D ca A w)) (va_Ql post (fxC (fh_ok D ca A)) A) mc ms A := by
  refine fx_start (by decide +kernel) (Nat.le_of_ble_eq_true rfl) ?_
  intro p e s m below meth c ls hx hb hr hml hown hts hlocks hnm hB hl
  exact sKXW_draftHash_in ⟨hx, hb, hr, hml, hown, hts, hlocks, hB.2.2.1, hB.2.2.2.1, hB.2.2.2.2, hB.2.1, hnm⟩ w mc ms a0 h _ _ ls hB.1 va_S.rf hl 0 0 (Nat.zero_add _) (Nat.zero_add _)
def wKXW_offer (post : Int32 → fh_T → Prop) (w : fh_T) (mc : Nat) (ms : Nat) (a0 : Nat) (a1 : Int32) : Prop := (∃ fs2, w a0 = some (.inr (1, fs2)) ∧ (wKXW_replicaAt (fun r1 w_1 => ((r1 = none → (post (-1) w_1)) ∧ (∀ y4, r1 = some y4 → (∃ x5, fh_g w_1 a0 1 2 (.ref x5) ∧ (∃ fs8, w_1 x5 = some (.inr (6, fs8)) ∧ (∃ a10 b11 mc12 ms13, mc = mc12 + a10 ∧ ms = ms13 + b11 ∧ (wKXDr_finished (fun r7 w_7 => (∃ y14, r7 = some y14 ∧ (∃ fs17, w_7 y4 = some (.inr (4, fs17)) ∧ (∃ a19 b20 mc21 ms22, mc12 = mc21 + a19 ∧ ms13 = ms22 + b20 ∧ (wKXRe_welcome (fun r16 w_16 => (post r16 w_16)) w_7 a19 b20 y4 y14))))) w_1 a10 b11 x5))))))) w a0 a1))
set_option maxRecDepth 100000 in
set_option maxHeartbeats 4000000 in
theorem sKXW_offer_in {p : Program} {l : Launch} {e : Env} {s : State} {m : MethodId} {args : Array Value} {below : List Frame} {meth : Method} {c : Code} {D : va_G} {ca : Nat → Nat} {A : Nat → Prop} {MC MS : Nat} {post : Int32 → fh_T → Prop} (C0 : kCx p s m args meth c D ca A RXW cXW_offer 3 (some .int) "offer") : ∀ (w : fh_T) (mc : Nat) (ms : Nat) (a0 : Nat) (a1 : Int32), wKXW_offer post w mc ms a0 a1 → ∀ (H : Heap) (locs : List Loc) (ls : Array Slot), fh_ok D ca A w H → va_S A s.heap H locs → lv_has ls 3 [(0, .ref a0), (1, .int a1)] → ∀ cells slots : Nat, cells + mc = MC → slots + ms = MS → W p l e ({ frames := 8, cells := MC, slots := MS, locals := 196 } : Room) s m args below meth c H locs cells slots (MQ below (va_Qi post (fxC (fh_ok D ca A)) A) args s MC MS A) (F0 m 0 ls []) := by
  obtain ⟨hx, hb, hr, hml, hown, hts, hlocks, hK, hN, hE, hA, hin⟩ := id C0
  intro w mc ms a0 a1 h H locs ls hP hS hl cells slots hbc hbs
  replace h : (∃ fs2, w a0 = some (.inr (1, fs2)) ∧ (wKXW_replicaAt (fun r1 w_1 => ((r1 = none → (post (-1) w_1)) ∧ (∀ y4, r1 = some y4 → (∃ x5, fh_g w_1 a0 1 2 (.ref x5) ∧ (∃ fs8, w_1 x5 = some (.inr (6, fs8)) ∧ (∃ a10 b11 mc12 ms13, mc = mc12 + a10 ∧ ms = ms13 + b11 ∧ (wKXDr_finished (fun r7 w_7 => (∃ y14, r7 = some y14 ∧ (∃ fs17, w_7 y4 = some (.inr (4, fs17)) ∧ (∃ a19 b20 mc21 ms22, mc12 = mc21 + a19 ∧ ms13 = ms22 + b20 ∧ (wKXRe_welcome (fun r16 w_16 => (post r16 w_16)) w_7 a19 b20 y4 y14))))) w_1 a10 b11 x5))))))) w a0 a1)) := h
  refine lv_aload_n hx hb dXW_offer_0 rfl (lv_at hl 0 rfl) ?_
  refine lv_iload_n hx hb dXW_offer_1 rfl (lv_at hl 1 rfl) ?_
  obtain ⟨fs2, g3, h⟩ := h
  refine va_calle (va_runV (As := [.int a1]) (rest := []) ⟨hx, hb, hml, hown, hts⟩ (cKXW_replicaAt h) (gc_XW_35 hts hN ⟨Nat.le_of_ble_eq_true rfl, Nat.le_of_ble_eq_true rfl⟩) (k_preV g3 rfl hP hS hA hK hN hE) rfl rfl hl.1 rfl (lv_room (Nat.le_of_ble_eq_true rfl)) dXW_offer_2 ⟨show cells + 0 ≤ MC by omega, show slots + 0 ≤ MS by omega⟩) hS (fun _ _ q => q) (fun _ q => q) (fun r1 w_1 t H locs ht hvm h hP hz hk hS => ?_)
  rw [fxC, ht] at hP
  refine W.cs (cells' := cells) (slots' := slots) rfl rfl ?_
  rcases e23 : r1 with _ | y4
  · replace h := h.1 e23
    subst e23
    refine lv_astore_nN (lv' := [(2, .null), (0, .ref a0), (1, .int a1)]) hx hb dXW_offer_5 rfl hl (by decide) rfl (fun ls hl => ?_)
    refine lv_aload_nN hx hb dXW_offer_6 rfl (lv_at hl 0 rfl) ?_
    refine lv_ifnonnullN hx hb dXW_offer_7 ?_
    refine lv_iconst (v := (-1)) hx hb dXW_offer_10 (by decide) ?_
    refine lv_goto (tgt := 25) hx hb dXW_offer_11 (by decide) ?_
    refine W.widen (k := MC) (n := MS) (by omega) (by omega) ?_
    exact W.iret hx hb hr (fun t ht hW => ⟨⟨_, _, rfl, h, by rw [fxC, ht]; exact hP⟩, hS.F ht⟩) hS.2.2 dXW_offer_25 hlocks
  · replace h := h.2 y4 e23
    subst e23
    refine lv_astore_n (lv' := [(2, .ref y4), (0, .ref a0), (1, .int a1)]) hx hb dXW_offer_5 rfl hl (by decide) rfl (fun ls hl => ?_)
    refine lv_aload_n hx hb dXW_offer_6 rfl (lv_at hl 0 rfl) ?_
    refine lv_ifnonnull (tgt := 14) hx hb dXW_offer_7 (by decide) ?_
    refine lv_aload_n hx hb dXW_offer_14 rfl (lv_at hl 0 rfl) ?_
    refine lv_aload_n hx hb dXW_offer_15 rfl (lv_at hl 1 rfl) ?_
    obtain ⟨x5, g6, h⟩ := h
    refine kg_XW_28 hx hb hown hts hN hK hP g6 dXW_offer_16 ?_
    obtain ⟨fs8, g9, h⟩ := h
    obtain ⟨a10, b11, mc12, ms13, hm1, hm2, h⟩ := h
    refine va_calle (va_runV (As := []) (rest := [.ref y4]) ⟨hx, hb, hml, hown, hts⟩ (cKXDr_finished h) (gc_XW_67 hts hN ⟨Nat.le_of_ble_eq_true rfl, Nat.le_of_ble_eq_true rfl⟩) (k_preV g9 rfl hP hS hA hK hN hE) rfl rfl hl.1 rfl (lv_room (Nat.le_of_ble_eq_true rfl)) dXW_offer_19 ⟨show cells + a10 ≤ MC by omega, show slots + b11 ≤ MS by omega⟩) hS (fun _ _ q => q) (fun _ q => q) (fun r7 w_7 t H locs ht hvm h hP hz hk hS => ?_)
    rw [fxC, ht] at hP
    refine W.cs (cells' := cells + a10) (slots' := slots + b11) rfl rfl ?_
    replace hbc : cells + a10 + mc12 = MC := by omega
    replace hbs : slots + b11 + ms13 = MS := by omega
    obtain ⟨y14, e15, h⟩ := h
    subst e15
    obtain ⟨fs17, g18, h⟩ := h
    obtain ⟨a19, b20, mc21, ms22, hm1, hm2, h⟩ := h
    refine va_calli (va_runV (As := [.ref y14]) (rest := []) ⟨hx, hb, hml, hown, hts⟩ (cKXRe_welcome h) (gc_XW_71 hts hN ⟨Nat.le_of_ble_eq_true rfl, Nat.le_of_ble_eq_true rfl⟩) (k_preV g18 rfl hP hS hA hK hN hE) rfl rfl hl.1 rfl (lv_room (Nat.le_of_ble_eq_true rfl)) dXW_offer_22 ⟨show cells + a10 + a19 ≤ MC by omega, show slots + b11 + b20 ≤ MS by omega⟩) hS (fun _ _ q => q) (fun _ q => q) (fun r16 w_16 t H locs ht hvm h hP hz hk hS => ?_)
    rw [fxC, ht] at hP
    refine W.cs (cells' := cells + a10 + a19) (slots' := slots + b11 + b20) rfl rfl ?_
    replace hbc : cells + a10 + a19 + mc21 = MC := by omega
    replace hbs : slots + b11 + b20 + ms22 = MS := by omega
    refine W.widen (k := MC) (n := MS) (by omega) (by omega) ?_
    exact W.iret hx hb hr (fun t ht hW => ⟨⟨_, _, rfl, h, by rw [fxC, ht]; exact hP⟩, hS.F ht⟩) hS.2.2 dXW_offer_25 hlocks
set_option maxRecDepth 100000 in
set_option maxHeartbeats 4000000 in
theorem cKXW_offer {l : Launch} {D : va_G} {ca : Nat → Nat} {A : Nat → Prop} {post : Int32 → fh_T → Prop} {w : fh_T} {mc : Nat} {ms : Nat} {a0 : Nat} {a1 : Int32} (h : wKXW_offer post w mc ms a0 a1) : Met l yXW_offer (.code yXW_offer cXW_offer 3 (some .int) :: lg_tbl) ({ frames := 8, cells := mc, slots := ms, locals := 196 } : Room) (va_Pc [.ref a0, .int a1] (kB D ca A w)) (va_Qi post (fxC (fh_ok D ca A)) A) mc ms A := by
  refine fx_start (by decide +kernel) (Nat.le_of_ble_eq_true rfl) ?_
  intro p e s m below meth c ls hx hb hr hml hown hts hlocks hnm hB hl
  exact sKXW_offer_in ⟨hx, hb, hr, hml, hown, hts, hlocks, hB.2.2.1, hB.2.2.2.1, hB.2.2.2.2, hB.2.1, hnm⟩ w mc ms a0 a1 h _ _ ls hB.1 va_S.rf hl 0 0 (Nat.zero_add _) (Nat.zero_add _)
noncomputable def wKXRe_headSet_4 (post : Int64 → fh_T → Prop) (n : Nat) : fh_T → Nat → Int64 → Int32 → Prop := Nat.rec (motive := fun _ => fh_T → Nat → Int64 → Int32 → Prop) (fun _ _ _ _ => False) (fun _ K4 w v0 v1 v3 => (∃ x1, fh_g w v0 4 2 (.ref x1) ∧ (∃ x3, fh_g w x1 3 1 (.int x3) ∧ ((x3 ≤ v3 → (post v1 w)) ∧ (¬ x3 ≤ v3 → (∃ x6, fh_g w v0 4 2 (.ref x6) ∧ (∃ x8, fh_g w x6 3 0 (.ref x8) ∧ (∃ n10 f11 y12, w x8 = some (.inl (0, n10, .inr (.inr (.inr (.inr f11))))) ∧ vp_in v3 n10 ∧ f11 (Int32.toNatClampNeg v3) = some y12 ∧ (∃ x16, fh_g w y12 7 1 (.int x16) ∧ (K4 w v0 (v1 ||| (hj_shl 1 x16)) (v3 + 1))))))))))) n
def wKXRe_headSet (post : Int64 → fh_T → Prop) (w : fh_T) (a0 : Nat) : Prop := (∃ k, wKXRe_headSet_4 post  k w a0 0 0)
set_option maxRecDepth 100000 in
set_option maxHeartbeats 4000000 in
theorem sKXRe_headSet_4 {p : Program} {l : Launch} {e : Env} {s : State} {m : MethodId} {args : Array Value} {below : List Frame} {meth : Method} {c : Code} {D : va_G} {ca : Nat → Nat} {A : Nat → Prop} {post : Int64 → fh_T → Prop} (C0 : kCx p s m args meth c D ca A RXRe cXRe_headSet 4 (some .long) "headSet") : ∀ (n : Nat) (w : fh_T) (v0 : Nat) (v1 : Int64) (v3 : Int32), wKXRe_headSet_4 post  n w v0 v1 v3 → ∀ (H : Heap) (locs : List Loc) (ls : Array Slot), fh_ok D ca A w H → va_S A s.heap H locs → lv_has ls 4 [(0, .ref v0), (1, .long v1), (3, .int v3)] → W p l e ({ frames := 0, cells := 0, slots := 0, locals := 0 } : Room) s m args below meth c H locs 0 0 (MQ below (va_Ql post (fxC (fh_ok D ca A)) A) args s 0 0 A) (F0 m 4 ls []) := by
  obtain ⟨hx, hb, hr, hml, hown, hts, hlocks, hK, hN, hE, hA, hin⟩ := id C0
  intro n
  induction n with
  | zero => exact fun _ _ _ _ h => h.elim
  | succ n hK4 =>
    intro w v0 v1 v3 h H locs ls hP hS hl
    replace h : (∃ x1, fh_g w v0 4 2 (.ref x1) ∧ (∃ x3, fh_g w x1 3 1 (.int x3) ∧ ((x3 ≤ v3 → (post v1 w)) ∧ (¬ x3 ≤ v3 → (∃ x6, fh_g w v0 4 2 (.ref x6) ∧ (∃ x8, fh_g w x6 3 0 (.ref x8) ∧ (∃ n10 f11 y12, w x8 = some (.inl (0, n10, .inr (.inr (.inr (.inr f11))))) ∧ vp_in v3 n10 ∧ f11 (Int32.toNatClampNeg v3) = some y12 ∧ (∃ x16, fh_g w y12 7 1 (.int x16) ∧ ((wKXRe_headSet_4 post  n) w v0 (v1 ||| (hj_shl 1 x16)) (v3 + 1)))))))))) := h
    refine lv_iload_n hx hb dXRe_headSet_4 rfl (lv_at hl 2 rfl) ?_
    refine lv_aload_n hx hb dXRe_headSet_5 rfl (lv_at hl 0 rfl) ?_
    obtain ⟨x1, g2, h⟩ := h
    refine kg_XRe_18 hx hb hown hts hN hK hP g2 dXRe_headSet_6 ?_
    obtain ⟨x3, g4, h⟩ := h
    refine kg_XRe_137 hx hb hown hts hN hK hP g4 dXRe_headSet_9 ?_
    refine lv_icmp_ge (tgt := 38) hx hb dXRe_headSet_12 (by decide) (fun c5 => ?_) (fun c5 => ?_)
    · replace h := h.1 c5
      refine lv_lload_n hx hb dXRe_headSet_38 rfl (lv_at hl 1 rfl) ?_
      exact W.lret hx hb hr (fun t ht hW => ⟨⟨_, _, rfl, h, by rw [fxC, ht]; exact hP⟩, hS.F ht⟩) hS.2.2 dXRe_headSet_39 hlocks
    · replace h := h.2 c5
      refine lv_lload_n hx hb dXRe_headSet_15 rfl (lv_at hl 1 rfl) ?_
      refine lv_lconst (v := 1) hx hb dXRe_headSet_16 (by decide) ?_
      refine lv_aload_n hx hb dXRe_headSet_17 rfl (lv_at hl 0 rfl) ?_
      obtain ⟨x6, g7, h⟩ := h
      refine kg_XRe_18 hx hb hown hts hN hK hP g7 dXRe_headSet_18 ?_
      obtain ⟨x8, g9, h⟩ := h
      refine kg_XRe_139 hx hb hown hts hN hK hP g9 dXRe_headSet_21 ?_
      refine lv_iload_n hx hb dXRe_headSet_24 rfl (lv_at hl 2 rfl) ?_
      obtain ⟨n10, f11, y12, g13, g14, g15, h⟩ := h
      refine kaa 0 rfl rfl hx hb hK hP g13 g14 g15 dXRe_headSet_25 ?_
      obtain ⟨x16, g17, h⟩ := h
      refine kg_XRe_36 hx hb hown hts hN hK hP g17 dXRe_headSet_26 ?_
      refine lv_lshl (v := hj_shl 1 x16) hx hb dXRe_headSet_29 rfl ?_
      refine lv_lor hx hb dXRe_headSet_30 ?_
      refine lv_lstore_n (lv' := [(1, .long (v1 ||| (hj_shl 1 x16))), (0, .ref v0), (3, .int v3)]) hx hb dXRe_headSet_31 rfl hl (by decide) rfl (fun ls hl => ?_)
      refine lv_iinc (v := v3 + 1) (lv' := [(3, .int (v3 + 1)), (1, .long (v1 ||| (hj_shl 1 x16))), (0, .ref v0)]) hx hb dXRe_headSet_32 hl (k := 2) rfl rfl (by decide) rfl (fun ls hl => ?_)
      refine lv_goto (tgt := 4) hx hb dXRe_headSet_35 (by decide) ?_
      exact hK4 w v0 (v1 ||| (hj_shl 1 x16)) (v3 + 1) h H locs ls hP hS (lv_sub hl [2, 1, 0] rfl)
set_option maxRecDepth 100000 in
set_option maxHeartbeats 4000000 in
theorem sKXRe_headSet_in {p : Program} {l : Launch} {e : Env} {s : State} {m : MethodId} {args : Array Value} {below : List Frame} {meth : Method} {c : Code} {D : va_G} {ca : Nat → Nat} {A : Nat → Prop} {post : Int64 → fh_T → Prop} (C0 : kCx p s m args meth c D ca A RXRe cXRe_headSet 4 (some .long) "headSet") : ∀ (w : fh_T) (a0 : Nat), wKXRe_headSet post w a0 → ∀ (H : Heap) (locs : List Loc) (ls : Array Slot), fh_ok D ca A w H → va_S A s.heap H locs → lv_has ls 4 [(0, .ref a0)] → W p l e ({ frames := 0, cells := 0, slots := 0, locals := 0 } : Room) s m args below meth c H locs 0 0 (MQ below (va_Ql post (fxC (fh_ok D ca A)) A) args s 0 0 A) (F0 m 0 ls []) := by
  obtain ⟨hx, hb, hr, hml, hown, hts, hlocks, hK, hN, hE, hA, hin⟩ := id C0
  intro w a0 h H locs ls hP hS hl
  replace h : (∃ k, wKXRe_headSet_4 post  k w a0 0 0) := h
  refine lv_lconst (v := 0) hx hb dXRe_headSet_0 (by decide) ?_
  refine lv_lstore_n (lv' := [(1, .long 0), (0, .ref a0)]) hx hb dXRe_headSet_1 rfl hl (by decide) rfl (fun ls hl => ?_)
  refine lv_iconst (v := 0) hx hb dXRe_headSet_2 (by decide) ?_
  refine lv_istore_n (lv' := [(3, .int 0), (1, .long 0), (0, .ref a0)]) hx hb dXRe_headSet_3 rfl hl (by decide) rfl (fun ls hl => ?_)
  obtain ⟨k, h⟩ := h
  exact sKXRe_headSet_4  C0  k w a0 0 0 h H locs ls hP hS (lv_sub hl [2, 1, 0] rfl)
set_option maxRecDepth 100000 in
set_option maxHeartbeats 4000000 in
theorem cKXRe_headSet {l : Launch} {D : va_G} {ca : Nat → Nat} {A : Nat → Prop} {post : Int64 → fh_T → Prop} {w : fh_T} {a0 : Nat} (h : wKXRe_headSet post w a0) : Met l yXRe_headSet (.code yXRe_headSet cXRe_headSet 4 (some .long) :: lg_tbl) ({ frames := 0, cells := 0, slots := 0, locals := 0 } : Room) (va_Pc [.ref a0] (kB D ca A w)) (va_Ql post (fxC (fh_ok D ca A)) A) 0 0 A := by
  refine fx_start (by decide +kernel) (Nat.le_of_ble_eq_true rfl) ?_
  intro p e s m below meth c ls hx hb hr hml hown hts hlocks hnm hB hl
  exact sKXRe_headSet_in ⟨hx, hb, hr, hml, hown, hts, hlocks, hB.2.2.1, hB.2.2.2.1, hB.2.2.2.2, hB.2.1, hnm⟩ w a0 h _ _ ls hB.1 va_S.rf hl
def wKXAs_init (post : fh_T → Prop) (w : fh_T) (a0 : Nat) (a1 : Nat) (a2 : Nat) (a3 : Nat) : Prop := (∃ fs1, w a0 = some (.inr (8, fs1)) ∧ 0 < fs1.length ∧ ∀ w2, w2 = fh_up w a0 (.inr (8, fs1.set 0 (.ref a1))) → (∃ fs5, w2 a0 = some (.inr (8, fs5)) ∧ 1 < fs5.length ∧ ∀ w6, w6 = fh_up w2 a0 (.inr (8, fs5.set 1 (.ref a2))) → (∃ fs9, w6 a0 = some (.inr (8, fs9)) ∧ 2 < fs9.length ∧ ∀ w10, w10 = fh_up w6 a0 (.inr (8, fs9.set 2 (.ref a3))) → (∃ fs14, w10 a3 = some (.inr (4, fs14)) ∧ (wKXRe_headSet (fun r13 w_13 => (∃ x16, fh_g w_13 a2 4 4 (.long x16) ∧ (∃ fs18, w_13 a0 = some (.inr (8, fs18)) ∧ 3 < fs18.length ∧ ∀ w19, w19 = fh_up w_13 a0 (.inr (8, fs18.set 3 (.long (r13 &&& (x16 ^^^ (-1)))))) → (post w19)))) w10 a3)))))
set_option maxRecDepth 100000 in
set_option maxHeartbeats 4000000 in
theorem sKXAs_init_in {p : Program} {l : Launch} {e : Env} {s : State} {m : MethodId} {args : Array Value} {below : List Frame} {meth : Method} {c : Code} {D : va_G} {ca : Nat → Nat} {A : Nat → Prop} {post : fh_T → Prop} (C0 : kCx p s m args meth c D ca A RXAs cXAs_init 4 none "<init>") : ∀ (w : fh_T) (a0 : Nat) (a1 : Nat) (a2 : Nat) (a3 : Nat), wKXAs_init post w a0 a1 a2 a3 → ∀ (H : Heap) (locs : List Loc) (ls : Array Slot), fh_ok D ca A w H → va_S A s.heap H locs → lv_has ls 4 [(0, .ref a0), (1, .ref a1), (2, .ref a2), (3, .ref a3)] → W p l e ({ frames := 1, cells := 0, slots := 0, locals := 40 } : Room) s m args below meth c H locs 0 0 (MQ below (va_Qv post (fxC (fh_ok D ca A)) A) args s 0 0 A) (F0 m 0 ls []) := by
  obtain ⟨hx, hb, hr, hml, hown, hts, hlocks, hK, hN, hE, hA, hin⟩ := id C0
  intro w a0 a1 a2 a3 h H locs ls hP hS hl
  replace h : (∃ fs1, w a0 = some (.inr (8, fs1)) ∧ 0 < fs1.length ∧ ∀ w2, w2 = fh_up w a0 (.inr (8, fs1.set 0 (.ref a1))) → (∃ fs5, w2 a0 = some (.inr (8, fs5)) ∧ 1 < fs5.length ∧ ∀ w6, w6 = fh_up w2 a0 (.inr (8, fs5.set 1 (.ref a2))) → (∃ fs9, w6 a0 = some (.inr (8, fs9)) ∧ 2 < fs9.length ∧ ∀ w10, w10 = fh_up w6 a0 (.inr (8, fs9.set 2 (.ref a3))) → (∃ fs14, w10 a3 = some (.inr (4, fs14)) ∧ (wKXRe_headSet (fun r13 w_13 => (∃ x16, fh_g w_13 a2 4 4 (.long x16) ∧ (∃ fs18, w_13 a0 = some (.inr (8, fs18)) ∧ 3 < fs18.length ∧ ∀ w19, w19 = fh_up w_13 a0 (.inr (8, fs18.set 3 (.long (r13 &&& (x16 ^^^ (-1)))))) → (post w19)))) w10 a3))))) := h
  refine lv_aload_n hx hb dXAs_init_0 rfl (lv_at hl 0 rfl) ?_
  refine W.objInit hx hb hown (hts (.methodLink RXAs 1 objectInit) (fx_m (by decide +kernel))) (hts (.instanceMethod objectInit) (fx_m (by decide +kernel))) (hts _ fx_objc) rfl (by rw [hml]; exact hl.1) rfl dXAs_init_1 (Nat.le_of_ble_eq_true rfl) (Nat.le_of_ble_eq_true rfl) ?_
  refine lv_aload_n hx hb dXAs_init_4 rfl (lv_at hl 0 rfl) ?_
  refine lv_aload_n hx hb dXAs_init_5 rfl (lv_at hl 1 rfl) ?_
  obtain ⟨fs1, g3, g4, h⟩ := h
  obtain ⟨w2, ew2⟩ : ∃ y, y = fh_up w a0 (.inr (8, fs1.set 0 (.ref a1))) := ⟨_, rfl⟩
  replace h := h w2 ew2
  refine kf_XAs_7 hin hx hb hown hts hN hK hP hS g3 g4 dXAs_init_6 (fun H locs hP hS => ?_)
  rw [← ew2] at hP
  refine lv_aload_n hx hb dXAs_init_9 rfl (lv_at hl 0 rfl) ?_
  refine lv_aload_n hx hb dXAs_init_10 rfl (lv_at hl 2 rfl) ?_
  obtain ⟨fs5, g7, g8, h⟩ := h
  obtain ⟨w6, ew6⟩ : ∃ y, y = fh_up w2 a0 (.inr (8, fs5.set 1 (.ref a2))) := ⟨_, rfl⟩
  replace h := h w6 ew6
  refine kf_XAs_13 hin hx hb hown hts hN hK hP hS g7 g8 dXAs_init_11 (fun H locs hP hS => ?_)
  rw [← ew6] at hP
  refine lv_aload_n hx hb dXAs_init_14 rfl (lv_at hl 0 rfl) ?_
  refine lv_aload_n hx hb dXAs_init_15 rfl (lv_at hl 3 rfl) ?_
  obtain ⟨fs9, g11, g12, h⟩ := h
  obtain ⟨w10, ew10⟩ : ∃ y, y = fh_up w6 a0 (.inr (8, fs9.set 2 (.ref a3))) := ⟨_, rfl⟩
  replace h := h w10 ew10
  refine kf_XAs_17 hin hx hb hown hts hN hK hP hS g11 g12 dXAs_init_16 (fun H locs hP hS => ?_)
  rw [← ew10] at hP
  refine lv_aload_n hx hb dXAs_init_19 rfl (lv_at hl 0 rfl) ?_
  refine lv_aload_n hx hb dXAs_init_20 rfl (lv_at hl 3 rfl) ?_
  obtain ⟨fs14, g15, h⟩ := h
  refine va_calll (va_runV (As := []) (rest := [.ref a0]) ⟨hx, hb, hml, hown, hts⟩ (cKXRe_headSet h) (gc_XAs_20 hts hN ⟨Nat.le_of_ble_eq_true rfl, Nat.le_of_ble_eq_true rfl⟩) (k_preV g15 rfl hP hS hA hK hN hE) rfl rfl hl.1 rfl (lv_room (Nat.le_of_ble_eq_true rfl)) dXAs_init_21 ⟨Nat.le_of_ble_eq_true rfl, Nat.le_of_ble_eq_true rfl⟩) hS (fun _ _ q => q) (fun _ q => q) (fun r13 w_13 t H locs ht hvm h hP hz hk hS => ?_)
  rw [fxC, ht] at hP
  refine lv_aload_n hx hb dXAs_init_24 rfl (lv_at hl 2 rfl) ?_
  obtain ⟨x16, g17, h⟩ := h
  refine kg_XAs_26 hx hb hown hts hN hK hP g17 dXAs_init_25 ?_
  refine lv_ldc2 (v := (-1)) hx hb hown (hts (.constantLong RXAs 30 (-1)) (fx_m (by decide +kernel))) dXAs_init_28 ?_
  refine lv_lxor hx hb dXAs_init_31 ?_
  refine lv_land hx hb dXAs_init_32 ?_
  obtain ⟨fs18, g20, g21, h⟩ := h
  obtain ⟨w19, ew19⟩ : ∃ y, y = fh_up w_13 a0 (.inr (8, fs18.set 3 (.long (r13 &&& (x16 ^^^ (-1)))))) := ⟨_, rfl⟩
  replace h := h w19 ew19
  refine kp_XAs_32 hx hb hown hts hN hK hP hS g20 g21 dXAs_init_33 (fun H locs hP hS => ?_)
  rw [← ew19] at hP
  exact W.vret hx hb hr (fun t ht hW => ⟨⟨_, rfl, h, by rw [fxC, ht]; exact hP⟩, hS.F ht⟩) hS.2.2 dXAs_init_36 hlocks
set_option maxRecDepth 100000 in
set_option maxHeartbeats 4000000 in
theorem cKXAs_init {l : Launch} {D : va_G} {ca : Nat → Nat} {A : Nat → Prop} {post : fh_T → Prop} {w : fh_T} {a0 : Nat} {a1 : Nat} {a2 : Nat} {a3 : Nat} (h : wKXAs_init post w a0 a1 a2 a3) : Met l yXAs_init (.code yXAs_init cXAs_init 4 none :: lg_tbl) ({ frames := 1, cells := 0, slots := 0, locals := 40 } : Room) (va_Pc [.ref a0, .ref a1, .ref a2, .ref a3] (kB D ca A w)) (va_Qv post (fxC (fh_ok D ca A)) A) 0 0 A := by
  refine fx_start (by decide +kernel) (Nat.le_of_ble_eq_true rfl) ?_
  intro p e s m below meth c ls hx hb hr hml hown hts hlocks hnm hB hl
  exact sKXAs_init_in ⟨hx, hb, hr, hml, hown, hts, hlocks, hB.2.2.1, hB.2.2.2.1, hB.2.2.2.2, hB.2.1, hnm⟩ w a0 a1 a2 a3 h _ _ ls hB.1 va_S.rf hl
def wKXAs_isOpen (post : Int32 → fh_T → Prop) (w : fh_T) (a0 : Nat) : Prop := (∃ x1, fh_g w a0 8 3 (.long x1) ∧ (((lg_cmp x1 0) = 0 → (post 0 w)) ∧ (¬ (lg_cmp x1 0) = 0 → (post 1 w))))
set_option maxRecDepth 100000 in
set_option maxHeartbeats 4000000 in
theorem sKXAs_isOpen_in {p : Program} {l : Launch} {e : Env} {s : State} {m : MethodId} {args : Array Value} {below : List Frame} {meth : Method} {c : Code} {D : va_G} {ca : Nat → Nat} {A : Nat → Prop} {post : Int32 → fh_T → Prop} (C0 : kCx p s m args meth c D ca A RXAs cXAs_isOpen 1 (some .boolean) "isOpen") : ∀ (w : fh_T) (a0 : Nat), wKXAs_isOpen post w a0 → ∀ (H : Heap) (locs : List Loc) (ls : Array Slot), fh_ok D ca A w H → va_S A s.heap H locs → lv_has ls 1 [(0, .ref a0)] → W p l e ({ frames := 0, cells := 0, slots := 0, locals := 0 } : Room) s m args below meth c H locs 0 0 (MQ below (va_Qi post (fxC (fh_ok D ca A)) A) args s 0 0 A) (F0 m 0 ls []) := by
  obtain ⟨hx, hb, hr, hml, hown, hts, hlocks, hK, hN, hE, hA, hin⟩ := id C0
  intro w a0 h H locs ls hP hS hl
  replace h : (∃ x1, fh_g w a0 8 3 (.long x1) ∧ (((lg_cmp x1 0) = 0 → (post 0 w)) ∧ (¬ (lg_cmp x1 0) = 0 → (post 1 w)))) := h
  refine lv_aload_n hx hb dXAs_isOpen_0 rfl (lv_at hl 0 rfl) ?_
  obtain ⟨x1, g2, h⟩ := h
  refine kg_XAs_32 hx hb hown hts hN hK hP g2 dXAs_isOpen_1 ?_
  refine lv_lconst (v := 0) hx hb dXAs_isOpen_4 (by decide) ?_
  refine W.lcmp hx hb dXAs_isOpen_5 ?_
  refine lv_if_eq (tgt := 13) hx hb dXAs_isOpen_6 (by decide) (fun c3 => ?_) (fun c3 => ?_)
  · replace h := h.1 c3
    refine lv_iconst (v := 0) hx hb dXAs_isOpen_13 (by decide) ?_
    exact W.zret hx hb hr rfl (fun t ht hW => ⟨⟨_, _, rfl, h, by rw [fxC, ht]; exact hP⟩, hS.F ht⟩) hS.2.2 dXAs_isOpen_14 hlocks
  · replace h := h.2 c3
    refine lv_iconst (v := 1) hx hb dXAs_isOpen_9 (by decide) ?_
    refine lv_goto (tgt := 14) hx hb dXAs_isOpen_10 (by decide) ?_
    exact W.zret hx hb hr rfl (fun t ht hW => ⟨⟨_, _, rfl, h, by rw [fxC, ht]; exact hP⟩, hS.F ht⟩) hS.2.2 dXAs_isOpen_14 hlocks
set_option maxRecDepth 100000 in
set_option maxHeartbeats 4000000 in
theorem cKXAs_isOpen {l : Launch} {D : va_G} {ca : Nat → Nat} {A : Nat → Prop} {post : Int32 → fh_T → Prop} {w : fh_T} {a0 : Nat} (h : wKXAs_isOpen post w a0) : Met l yXAs_isOpen (.code yXAs_isOpen cXAs_isOpen 1 (some .boolean) :: lg_tbl) ({ frames := 0, cells := 0, slots := 0, locals := 0 } : Room) (va_Pc [.ref a0] (kB D ca A w)) (va_Qi post (fxC (fh_ok D ca A)) A) 0 0 A := by
  refine fx_start (by decide +kernel) (Nat.le_of_ble_eq_true rfl) ?_
  intro p e s m below meth c ls hx hb hr hml hown hts hlocks hnm hB hl
  exact sKXAs_isOpen_in ⟨hx, hb, hr, hml, hown, hts, hlocks, hB.2.2.1, hB.2.2.2.1, hB.2.2.2.2, hB.2.1, hnm⟩ w a0 h _ _ ls hB.1 va_S.rf hl
noncomputable def wKXKn_linksOfAll_5 (post : Int64 → fh_T → Prop) (n : Nat) : fh_T → Nat → Int64 → Int64 → Int32 → Prop := Nat.rec (motive := fun _ => fh_T → Nat → Int64 → Int64 → Int32 → Prop) (fun _ _ _ _ _ => False) (fun _ K5 w v0 v1 v3 v5 => (∃ x1, fh_g w v0 2 0 (.ref x1) ∧ (∃ x3, fh_g w x1 3 1 (.int x3) ∧ ((x3 ≤ v5 → (post v3 w)) ∧ (¬ x3 ≤ v5 → (wKXW_contains (fun r6 w_6 => ((r6 = 0 → (K5 w_6 v0 v1 v3 (v5 + 1))) ∧ (¬ r6 = 0 → (∃ x8, fh_g w_6 v0 2 0 (.ref x8) ∧ (∃ x10, fh_g w_6 x8 3 0 (.ref x10) ∧ (∃ n12 f13 y14, w_6 x10 = some (.inl (0, n12, .inr (.inr (.inr (.inr f13))))) ∧ vp_in v5 n12 ∧ f13 (Int32.toNatClampNeg v5) = some y14 ∧ (∃ x18, fh_g w_6 y14 7 3 (.long x18) ∧ (K5 w_6 v0 v1 (v3 ||| x18) (v5 + 1))))))))) w v1 v5)))))) n
def wKXKn_linksOfAll (post : Int64 → fh_T → Prop) (w : fh_T) (a0 : Nat) (a1 : Int64) : Prop := (∃ k, wKXKn_linksOfAll_5 post  k w a0 a1 0 0)
set_option maxRecDepth 100000 in
set_option maxHeartbeats 4000000 in
theorem sKXKn_linksOfAll_5 {p : Program} {l : Launch} {e : Env} {s : State} {m : MethodId} {args : Array Value} {below : List Frame} {meth : Method} {c : Code} {D : va_G} {ca : Nat → Nat} {A : Nat → Prop} {post : Int64 → fh_T → Prop} (C0 : kCx p s m args meth c D ca A RXKn cXKn_linksOfAll 6 (some .long) "linksOfAll") : ∀ (n : Nat) (w : fh_T) (v0 : Nat) (v1 : Int64) (v3 : Int64) (v5 : Int32), wKXKn_linksOfAll_5 post  n w v0 v1 v3 v5 → ∀ (H : Heap) (locs : List Loc) (ls : Array Slot), fh_ok D ca A w H → va_S A s.heap H locs → lv_has ls 6 [(0, .ref v0), (1, .long v1), (3, .long v3), (5, .int v5)] → W p l e ({ frames := 1, cells := 0, slots := 0, locals := 22 } : Room) s m args below meth c H locs 0 0 (MQ below (va_Ql post (fxC (fh_ok D ca A)) A) args s 0 0 A) (F0 m 5 ls []) := by
  obtain ⟨hx, hb, hr, hml, hown, hts, hlocks, hK, hN, hE, hA, hin⟩ := id C0
  intro n
  induction n with
  | zero => exact fun _ _ _ _ _ h => h.elim
  | succ n hK5 =>
    intro w v0 v1 v3 v5 h H locs ls hP hS hl
    replace h : (∃ x1, fh_g w v0 2 0 (.ref x1) ∧ (∃ x3, fh_g w x1 3 1 (.int x3) ∧ ((x3 ≤ v5 → (post v3 w)) ∧ (¬ x3 ≤ v5 → (wKXW_contains (fun r6 w_6 => ((r6 = 0 → ((wKXKn_linksOfAll_5 post  n) w_6 v0 v1 v3 (v5 + 1))) ∧ (¬ r6 = 0 → (∃ x8, fh_g w_6 v0 2 0 (.ref x8) ∧ (∃ x10, fh_g w_6 x8 3 0 (.ref x10) ∧ (∃ n12 f13 y14, w_6 x10 = some (.inl (0, n12, .inr (.inr (.inr (.inr f13))))) ∧ vp_in v5 n12 ∧ f13 (Int32.toNatClampNeg v5) = some y14 ∧ (∃ x18, fh_g w_6 y14 7 3 (.long x18) ∧ ((wKXKn_linksOfAll_5 post  n) w_6 v0 v1 (v3 ||| x18) (v5 + 1))))))))) w v1 v5))))) := h
    refine lv_iload hx hb dXKn_linksOfAll_5 (lv_at hl 3 rfl) ?_
    refine lv_aload_n hx hb dXKn_linksOfAll_7 rfl (lv_at hl 0 rfl) ?_
    obtain ⟨x1, g2, h⟩ := h
    refine kg_XKn_12 hx hb hown hts hN hK hP g2 dXKn_linksOfAll_8 ?_
    obtain ⟨x3, g4, h⟩ := h
    refine kg_XKn_18 hx hb hown hts hN hK hP g4 dXKn_linksOfAll_11 ?_
    refine lv_icmp_ge (tgt := 48) hx hb dXKn_linksOfAll_14 (by decide) (fun c5 => ?_) (fun c5 => ?_)
    · replace h := h.1 c5
      refine lv_lload_n hx hb dXKn_linksOfAll_48 rfl (lv_at hl 2 rfl) ?_
      exact W.lret hx hb hr (fun t ht hW => ⟨⟨_, _, rfl, h, by rw [fxC, ht]; exact hP⟩, hS.F ht⟩) hS.2.2 dXKn_linksOfAll_49 hlocks
    · replace h := h.2 c5
      refine lv_lload_n hx hb dXKn_linksOfAll_17 rfl (lv_at hl 1 rfl) ?_
      refine lv_iload hx hb dXKn_linksOfAll_18 (lv_at hl 3 rfl) ?_
      refine va_calli (va_runSN (As := [.long v1, .int v5]) (rest := []) ⟨hx, hb, hml, hown, hts⟩ (cKXW_contains h) (gc_XKn_42 hts hN ⟨Nat.le_of_ble_eq_true rfl, Nat.le_of_ble_eq_true rfl⟩) (k_preS hP hS hA hK hN hE) rfl rfl hl.1 rfl (lv_room (Nat.le_of_ble_eq_true rfl)) dXKn_linksOfAll_20 ⟨Nat.le_of_ble_eq_true rfl, Nat.le_of_ble_eq_true rfl⟩) hS (fun _ _ q => q) (fun _ q => q) (fun r6 w_6 t H locs ht hvm h hP hz hk hS => ?_)
      rw [fxC, ht] at hP
      refine lv_if_eq (tgt := 42) hx hb dXKn_linksOfAll_23 (by decide) (fun c7 => ?_) (fun c7 => ?_)
      · replace h := h.1 c7
        refine lv_iinc (v := v5 + 1) (lv' := [(5, .int (v5 + 1)), (0, .ref v0), (1, .long v1), (3, .long v3)]) hx hb dXKn_linksOfAll_42 hl (k := 3) rfl rfl (by decide) rfl (fun ls hl => ?_)
        refine lv_goto (tgt := 5) hx hb dXKn_linksOfAll_45 (by decide) ?_
        exact hK5 w_6 v0 v1 v3 (v5 + 1) h H locs ls hP hS (lv_sub hl [1, 2, 3, 0] rfl)
      · replace h := h.2 c7
        refine lv_lload_n hx hb dXKn_linksOfAll_26 rfl (lv_at hl 2 rfl) ?_
        refine lv_aload_n hx hb dXKn_linksOfAll_27 rfl (lv_at hl 0 rfl) ?_
        obtain ⟨x8, g9, h⟩ := h
        refine kg_XKn_12 hx hb hown hts hN hK hP g9 dXKn_linksOfAll_28 ?_
        obtain ⟨x10, g11, h⟩ := h
        refine kg_XKn_26 hx hb hown hts hN hK hP g11 dXKn_linksOfAll_31 ?_
        refine lv_iload hx hb dXKn_linksOfAll_34 (lv_at hl 3 rfl) ?_
        obtain ⟨n12, f13, y14, g15, g16, g17, h⟩ := h
        refine kaa 0 rfl rfl hx hb hK hP g15 g16 g17 dXKn_linksOfAll_36 ?_
        obtain ⟨x18, g19, h⟩ := h
        refine kg_XKn_46 hx hb hown hts hN hK hP g19 dXKn_linksOfAll_37 ?_
        refine lv_lor hx hb dXKn_linksOfAll_40 ?_
        refine lv_lstore_n (lv' := [(3, .long (v3 ||| x18)), (0, .ref v0), (1, .long v1), (5, .int v5)]) hx hb dXKn_linksOfAll_41 rfl hl (by decide) rfl (fun ls hl => ?_)
        refine lv_iinc (v := v5 + 1) (lv' := [(5, .int (v5 + 1)), (3, .long (v3 ||| x18)), (0, .ref v0), (1, .long v1)]) hx hb dXKn_linksOfAll_42 hl (k := 3) rfl rfl (by decide) rfl (fun ls hl => ?_)
        refine lv_goto (tgt := 5) hx hb dXKn_linksOfAll_45 (by decide) ?_
        exact hK5 w_6 v0 v1 (v3 ||| x18) (v5 + 1) h H locs ls hP hS (lv_sub hl [2, 3, 1, 0] rfl)
set_option maxRecDepth 100000 in
set_option maxHeartbeats 4000000 in
theorem sKXKn_linksOfAll_in {p : Program} {l : Launch} {e : Env} {s : State} {m : MethodId} {args : Array Value} {below : List Frame} {meth : Method} {c : Code} {D : va_G} {ca : Nat → Nat} {A : Nat → Prop} {post : Int64 → fh_T → Prop} (C0 : kCx p s m args meth c D ca A RXKn cXKn_linksOfAll 6 (some .long) "linksOfAll") : ∀ (w : fh_T) (a0 : Nat) (a1 : Int64), wKXKn_linksOfAll post w a0 a1 → ∀ (H : Heap) (locs : List Loc) (ls : Array Slot), fh_ok D ca A w H → va_S A s.heap H locs → lv_has ls 6 [(0, .ref a0), (1, .long a1)] → W p l e ({ frames := 1, cells := 0, slots := 0, locals := 22 } : Room) s m args below meth c H locs 0 0 (MQ below (va_Ql post (fxC (fh_ok D ca A)) A) args s 0 0 A) (F0 m 0 ls []) := by
  obtain ⟨hx, hb, hr, hml, hown, hts, hlocks, hK, hN, hE, hA, hin⟩ := id C0
  intro w a0 a1 h H locs ls hP hS hl
  replace h : (∃ k, wKXKn_linksOfAll_5 post  k w a0 a1 0 0) := h
  refine lv_lconst (v := 0) hx hb dXKn_linksOfAll_0 (by decide) ?_
  refine lv_lstore_n (lv' := [(3, .long 0), (0, .ref a0), (1, .long a1)]) hx hb dXKn_linksOfAll_1 rfl hl (by decide) rfl (fun ls hl => ?_)
  refine lv_iconst (v := 0) hx hb dXKn_linksOfAll_2 (by decide) ?_
  refine lv_istore (lv' := [(5, .int 0), (3, .long 0), (0, .ref a0), (1, .long a1)]) hx hb dXKn_linksOfAll_3 hl (by decide) rfl (fun ls hl => ?_)
  obtain ⟨k, h⟩ := h
  exact sKXKn_linksOfAll_5  C0  k w a0 a1 0 0 h H locs ls hP hS (lv_sub hl [2, 3, 1, 0] rfl)
set_option maxRecDepth 100000 in
set_option maxHeartbeats 4000000 in
theorem cKXKn_linksOfAll {l : Launch} {D : va_G} {ca : Nat → Nat} {A : Nat → Prop} {post : Int64 → fh_T → Prop} {w : fh_T} {a0 : Nat} {a1 : Int64} (h : wKXKn_linksOfAll post w a0 a1) : Met l yXKn_linksOfAll (.code yXKn_linksOfAll cXKn_linksOfAll 6 (some .long) :: lg_tbl) ({ frames := 1, cells := 0, slots := 0, locals := 22 } : Room) (va_Pc [.ref a0, .long a1] (kB D ca A w)) (va_Ql post (fxC (fh_ok D ca A)) A) 0 0 A := by
  refine fx_start (by decide +kernel) (Nat.le_of_ble_eq_true rfl) ?_
  intro p e s m below meth c ls hx hb hr hml hown hts hlocks hnm hB hl
  exact sKXKn_linksOfAll_in ⟨hx, hb, hr, hml, hown, hts, hlocks, hB.2.2.1, hB.2.2.2.1, hB.2.2.2.2, hB.2.1, hnm⟩ w a0 a1 h _ _ ls hB.1 va_S.rf hl
def wKXAs_ask (post : fh_T → Prop) (w : fh_T) (a0 : Nat) : Prop := (∃ x1, fh_g w a0 8 4 (.long x1) ∧ (∃ x3, fh_g w a0 8 3 (.long x3) ∧ (∃ fs5, w a0 = some (.inr (8, fs5)) ∧ 4 < fs5.length ∧ ∀ w6, w6 = fh_up w a0 (.inr (8, fs5.set 4 (.long (x1 ||| x3)))) → (∃ x9, fh_g w6 a0 8 0 (.ref x9) ∧ (∃ x11, fh_g w6 a0 8 3 (.long x11) ∧ (∃ fs14, w6 x9 = some (.inr (2, fs14)) ∧ (wKXKn_linksOfAll (fun r13 w_13 => (∃ x16, fh_g w_13 a0 8 1 (.ref x16) ∧ (∃ x18, fh_g w_13 x16 4 4 (.long x18) ∧ (∃ x20, fh_g w_13 a0 8 4 (.long x20) ∧ (∃ fs22, w_13 a0 = some (.inr (8, fs22)) ∧ 3 < fs22.length ∧ ∀ w23, w23 = fh_up w_13 a0 (.inr (8, fs22.set 3 (.long (r13 &&& ((x18 ||| x20) ^^^ (-1)))))) → (post w23)))))) w6 x9 x11)))))))
set_option maxRecDepth 100000 in
set_option maxHeartbeats 4000000 in
theorem sKXAs_ask_in {p : Program} {l : Launch} {e : Env} {s : State} {m : MethodId} {args : Array Value} {below : List Frame} {meth : Method} {c : Code} {D : va_G} {ca : Nat → Nat} {A : Nat → Prop} {post : fh_T → Prop} (C0 : kCx p s m args meth c D ca A RXAs cXAs_ask 1 none "ask") : ∀ (w : fh_T) (a0 : Nat), wKXAs_ask post w a0 → ∀ (H : Heap) (locs : List Loc) (ls : Array Slot), fh_ok D ca A w H → va_S A s.heap H locs → lv_has ls 1 [(0, .ref a0)] → W p l e ({ frames := 2, cells := 0, slots := 0, locals := 47 } : Room) s m args below meth c H locs 0 0 (MQ below (va_Qv post (fxC (fh_ok D ca A)) A) args s 0 0 A) (F0 m 0 ls []) := by
  obtain ⟨hx, hb, hr, hml, hown, hts, hlocks, hK, hN, hE, hA, hin⟩ := id C0
  intro w a0 h H locs ls hP hS hl
  replace h : (∃ x1, fh_g w a0 8 4 (.long x1) ∧ (∃ x3, fh_g w a0 8 3 (.long x3) ∧ (∃ fs5, w a0 = some (.inr (8, fs5)) ∧ 4 < fs5.length ∧ ∀ w6, w6 = fh_up w a0 (.inr (8, fs5.set 4 (.long (x1 ||| x3)))) → (∃ x9, fh_g w6 a0 8 0 (.ref x9) ∧ (∃ x11, fh_g w6 a0 8 3 (.long x11) ∧ (∃ fs14, w6 x9 = some (.inr (2, fs14)) ∧ (wKXKn_linksOfAll (fun r13 w_13 => (∃ x16, fh_g w_13 a0 8 1 (.ref x16) ∧ (∃ x18, fh_g w_13 x16 4 4 (.long x18) ∧ (∃ x20, fh_g w_13 a0 8 4 (.long x20) ∧ (∃ fs22, w_13 a0 = some (.inr (8, fs22)) ∧ 3 < fs22.length ∧ ∀ w23, w23 = fh_up w_13 a0 (.inr (8, fs22.set 3 (.long (r13 &&& ((x18 ||| x20) ^^^ (-1)))))) → (post w23)))))) w6 x9 x11))))))) := h
  refine lv_aload_n hx hb dXAs_ask_0 rfl (lv_at hl 0 rfl) ?_
  refine lv_dup hx hb dXAs_ask_1 rfl ?_
  obtain ⟨x1, g2, h⟩ := h
  refine kg_XAs_35 hx hb hown hts hN hK hP g2 dXAs_ask_2 ?_
  refine lv_aload_n hx hb dXAs_ask_5 rfl (lv_at hl 0 rfl) ?_
  obtain ⟨x3, g4, h⟩ := h
  refine kg_XAs_32 hx hb hown hts hN hK hP g4 dXAs_ask_6 ?_
  refine lv_lor hx hb dXAs_ask_9 ?_
  obtain ⟨fs5, g7, g8, h⟩ := h
  obtain ⟨w6, ew6⟩ : ∃ y, y = fh_up w a0 (.inr (8, fs5.set 4 (.long (x1 ||| x3)))) := ⟨_, rfl⟩
  replace h := h w6 ew6
  refine kp_XAs_35 hx hb hown hts hN hK hP hS g7 g8 dXAs_ask_10 (fun H locs hP hS => ?_)
  rw [← ew6] at hP
  refine lv_aload_n hx hb dXAs_ask_13 rfl (lv_at hl 0 rfl) ?_
  refine lv_aload_n hx hb dXAs_ask_14 rfl (lv_at hl 0 rfl) ?_
  obtain ⟨x9, g10, h⟩ := h
  refine kg_XAs_7 hx hb hown hts hN hK hP g10 dXAs_ask_15 ?_
  refine lv_aload_n hx hb dXAs_ask_18 rfl (lv_at hl 0 rfl) ?_
  obtain ⟨x11, g12, h⟩ := h
  refine kg_XAs_32 hx hb hown hts hN hK hP g12 dXAs_ask_19 ?_
  obtain ⟨fs14, g15, h⟩ := h
  refine va_calll (va_runV (As := [.long x11]) (rest := [.ref a0]) ⟨hx, hb, hml, hown, hts⟩ (cKXKn_linksOfAll h) (gc_XAs_38 hts hN ⟨Nat.le_of_ble_eq_true rfl, Nat.le_of_ble_eq_true rfl⟩) (k_preV g15 rfl hP hS hA hK hN hE) rfl rfl hl.1 rfl (lv_room (Nat.le_of_ble_eq_true rfl)) dXAs_ask_22 ⟨Nat.le_of_ble_eq_true rfl, Nat.le_of_ble_eq_true rfl⟩) hS (fun _ _ q => q) (fun _ q => q) (fun r13 w_13 t H locs ht hvm h hP hz hk hS => ?_)
  rw [fxC, ht] at hP
  refine lv_aload_n hx hb dXAs_ask_25 rfl (lv_at hl 0 rfl) ?_
  obtain ⟨x16, g17, h⟩ := h
  refine kg_XAs_13 hx hb hown hts hN hK hP g17 dXAs_ask_26 ?_
  obtain ⟨x18, g19, h⟩ := h
  refine kg_XAs_26 hx hb hown hts hN hK hP g19 dXAs_ask_29 ?_
  refine lv_aload_n hx hb dXAs_ask_32 rfl (lv_at hl 0 rfl) ?_
  obtain ⟨x20, g21, h⟩ := h
  refine kg_XAs_35 hx hb hown hts hN hK hP g21 dXAs_ask_33 ?_
  refine lv_lor hx hb dXAs_ask_36 ?_
  refine lv_ldc2 (v := (-1)) hx hb hown (hts (.constantLong RXAs 30 (-1)) (fx_m (by decide +kernel))) dXAs_ask_37 ?_
  refine lv_lxor hx hb dXAs_ask_40 ?_
  refine lv_land hx hb dXAs_ask_41 ?_
  obtain ⟨fs22, g24, g25, h⟩ := h
  obtain ⟨w23, ew23⟩ : ∃ y, y = fh_up w_13 a0 (.inr (8, fs22.set 3 (.long (r13 &&& ((x18 ||| x20) ^^^ (-1)))))) := ⟨_, rfl⟩
  replace h := h w23 ew23
  refine kp_XAs_32 hx hb hown hts hN hK hP hS g24 g25 dXAs_ask_42 (fun H locs hP hS => ?_)
  rw [← ew23] at hP
  exact W.vret hx hb hr (fun t ht hW => ⟨⟨_, rfl, h, by rw [fxC, ht]; exact hP⟩, hS.F ht⟩) hS.2.2 dXAs_ask_45 hlocks
set_option maxRecDepth 100000 in
set_option maxHeartbeats 4000000 in
theorem cKXAs_ask {l : Launch} {D : va_G} {ca : Nat → Nat} {A : Nat → Prop} {post : fh_T → Prop} {w : fh_T} {a0 : Nat} (h : wKXAs_ask post w a0) : Met l yXAs_ask (.code yXAs_ask cXAs_ask 1 none :: lg_tbl) ({ frames := 2, cells := 0, slots := 0, locals := 47 } : Room) (va_Pc [.ref a0] (kB D ca A w)) (va_Qv post (fxC (fh_ok D ca A)) A) 0 0 A := by
  refine fx_start (by decide +kernel) (Nat.le_of_ble_eq_true rfl) ?_
  intro p e s m below meth c ls hx hb hr hml hown hts hlocks hnm hB hl
  exact sKXAs_ask_in ⟨hx, hb, hr, hml, hown, hts, hlocks, hB.2.2.1, hB.2.2.2.1, hB.2.2.2.2, hB.2.1, hnm⟩ w a0 h _ _ ls hB.1 va_S.rf hl
