noncomputable def wKXKn_candidate_10 (post : Option Nat → fh_T → Prop) (n : Nat) : fh_T → Nat → Nat → Nat → Nat → Int32 → Int64 → Int64 → Int32 → Prop := Nat.rec (motive := fun _ => fh_T → Nat → Nat → Nat → Nat → Int32 → Int64 → Int64 → Int32 → Prop) (fun _ _ _ _ _ _ _ _ _ => False) (fun _ K10 w mc ms v0 v1 v2 v3 v5 v7 => (∃ x1, fh_g w v1 5 4 (.ref x1) ∧ (∃ n3 z4, w x1 = some (.inl (2, n3, z4)) ∧ (((nI n3) ≤ v7 → (∃ mc9 ms10, mc = mc9 + 1 ∧ ms = ms10 + 5 ∧ ∀ q7, w q7 = none → ∀ w8, w8 = fh_up w q7 (.inr (7, [.null, .int 0, .int 0, .long 0, .long 0])) → (∃ x11, fh_g w8 v0 2 0 (.ref x11) ∧ (∃ x13, fh_g w8 x11 3 1 (.int x13) ∧ (wKXMe_init (fun w_15 => (post (some q7) w_15)) w8 q7 v1 x13 v2 v3 (v3 ||| v5)))))) ∧ (¬ (nI n3) ≤ v7 → (∃ x16, fh_g w v1 5 4 (.ref x16) ∧ (∃ n18 f19, w x16 = some (.inl (2, n18, .inr (.inl f19))) ∧ vp_in v7 n18 ∧ (∃ fs23, w v0 = some (.inr (2, fs23)) ∧ (wKXKn_find (fun r22 w_22 => ((r22 = none → (K10 w_22 mc ms v0 v1 v2 v3 v5 (v7 + 1))) ∧ (∀ y25, r22 = some y25 → (∃ x26, fh_g w_22 y25 7 2 (.int x26) ∧ (∃ x28, fh_g w_22 y25 7 1 (.int x28) ∧ (∃ x30, fh_g w_22 y25 7 4 (.long x30) ∧ (K10 w_22 mc ms v0 v1 (if v2 < (x26 + 1) then (x26 + 1) else v2) (v3 ||| (hj_shl 1 x28)) (v5 ||| x30) (v7 + 1)))))))) w v0 (f19 (Int32.toNatClampNeg v7))))))))))) n
def wKXKn_candidate (post : Option Nat → fh_T → Prop) (w : fh_T) (mc : Nat) (ms : Nat) (a0 : Nat) (a1 : Nat) : Prop := (∃ k, wKXKn_candidate_10 post  k w mc ms a0 a1 1 0 0 0)
set_option maxRecDepth 100000 in
set_option maxHeartbeats 4000000 in
theorem sKXKn_candidate_10 {p : Program} {l : Launch} {e : Env} {s : State} {m : MethodId} {args : Array Value} {below : List Frame} {meth : Method} {c : Code} {D : va_G} {ca : Nat → Nat} {A : Nat → Prop} {MC MS : Nat} {post : Option Nat → fh_T → Prop} (C0 : kCx p s m args meth c D ca A RXKn cXKn_candidate 9 (some (.object "HashLinkedWeb$Member")) "candidate") : ∀ (n : Nat) (w : fh_T) (mc : Nat) (ms : Nat) (v0 : Nat) (v1 : Nat) (v2 : Int32) (v3 : Int64) (v5 : Int64) (v7 : Int32), wKXKn_candidate_10 post  n w mc ms v0 v1 v2 v3 v5 v7 → ∀ (H : Heap) (locs : List Loc) (ls : Array Slot), fh_ok D ca A w H → va_S A s.heap H locs → lv_has ls 9 [(0, .ref v0), (1, .ref v1), (2, .int v2), (3, .long v3), (5, .long v5), (7, .int v7)] → ∀ cells slots : Nat, cells + mc = MC → slots + ms = MS → W p l e ({ frames := 2, cells := MC, slots := MS, locals := 67 } : Room) s m args below meth c H locs cells slots (MQ below (va_Qe (fun x => x) post (fxC (fh_ok D ca A)) A) args s MC MS A) (F0 m 10 ls []) := by
  obtain ⟨hx, hb, hr, hml, hown, hts, hlocks, hK, hN, hE, hA, hin⟩ := id C0
  intro n
  induction n with
  | zero => exact fun _ _ _ _ _ _ _ _ _ h => h.elim
  | succ n hK10 =>
    intro w mc ms v0 v1 v2 v3 v5 v7 h H locs ls hP hS hl cells slots hbc hbs
    replace h : (∃ x1, fh_g w v1 5 4 (.ref x1) ∧ (∃ n3 z4, w x1 = some (.inl (2, n3, z4)) ∧ (((nI n3) ≤ v7 → (∃ mc9 ms10, mc = mc9 + 1 ∧ ms = ms10 + 5 ∧ ∀ q7, w q7 = none → ∀ w8, w8 = fh_up w q7 (.inr (7, [.null, .int 0, .int 0, .long 0, .long 0])) → (∃ x11, fh_g w8 v0 2 0 (.ref x11) ∧ (∃ x13, fh_g w8 x11 3 1 (.int x13) ∧ (wKXMe_init (fun w_15 => (post (some q7) w_15)) w8 q7 v1 x13 v2 v3 (v3 ||| v5)))))) ∧ (¬ (nI n3) ≤ v7 → (∃ x16, fh_g w v1 5 4 (.ref x16) ∧ (∃ n18 f19, w x16 = some (.inl (2, n18, .inr (.inl f19))) ∧ vp_in v7 n18 ∧ (∃ fs23, w v0 = some (.inr (2, fs23)) ∧ (wKXKn_find (fun r22 w_22 => ((r22 = none → ((wKXKn_candidate_10 post  n) w_22 mc ms v0 v1 v2 v3 v5 (v7 + 1))) ∧ (∀ y25, r22 = some y25 → (∃ x26, fh_g w_22 y25 7 2 (.int x26) ∧ (∃ x28, fh_g w_22 y25 7 1 (.int x28) ∧ (∃ x30, fh_g w_22 y25 7 4 (.long x30) ∧ ((wKXKn_candidate_10 post  n) w_22 mc ms v0 v1 (if v2 < (x26 + 1) then (x26 + 1) else v2) (v3 ||| (hj_shl 1 x28)) (v5 ||| x30) (v7 + 1)))))))) w v0 (f19 (Int32.toNatClampNeg v7)))))))))) := h
    refine lv_iload hx hb dXKn_candidate_10 (lv_at hl 5 rfl) ?_
    refine lv_aload_n hx hb dXKn_candidate_12 rfl (lv_at hl 1 rfl) ?_
    obtain ⟨x1, g2, h⟩ := h
    refine kg_XKn_49 hx hb hown hts hN hK hP g2 dXKn_candidate_13 ?_
    obtain ⟨n3, z4, g5, h⟩ := h
    refine kal 2 rfl rfl hx hb hK hP g5 dXKn_candidate_16 ?_
    refine lv_icmp_ge (tgt := 76) hx hb dXKn_candidate_17 (by decide) (fun c6 => ?_) (fun c6 => ?_)
    · replace h := h.1 c6
      obtain ⟨mc9, ms10, hm1, hm2, h⟩ := h
      refine ko_XKn_31 hx hb hown hts hK hE hP hS hA (show cells + 1 ≤ MC by omega) (show slots + 5 ≤ MS by omega) dXKn_candidate_76 (fun q7 H hq hP hS => ?_)
      obtain ⟨w8, ew8⟩ : ∃ y, y = fh_up w q7 (.inr (7, [.null, .int 0, .int 0, .long 0, .long 0])) := ⟨_, rfl⟩
      replace h := h q7 hq w8 ew8
      rw [← ew8] at hP
      replace hbc : cells + 1 + mc9 = MC := by omega
      replace hbs : slots + 5 + ms10 = MS := by omega
      refine lv_dup hx hb dXKn_candidate_79 rfl ?_
      refine lv_aload_n hx hb dXKn_candidate_80 rfl (lv_at hl 1 rfl) ?_
      refine lv_aload_n hx hb dXKn_candidate_81 rfl (lv_at hl 0 rfl) ?_
      obtain ⟨x11, g12, h⟩ := h
      refine kg_XKn_12 hx hb hown hts hN hK hP g12 dXKn_candidate_82 ?_
      obtain ⟨x13, g14, h⟩ := h
      refine kg_XKn_18 hx hb hown hts hN hK hP g14 dXKn_candidate_85 ?_
      refine lv_iload_n hx hb dXKn_candidate_88 rfl (lv_at hl 2 rfl) ?_
      refine lv_lload_n hx hb dXKn_candidate_89 rfl (lv_at hl 3 rfl) ?_
      refine lv_lload_n hx hb dXKn_candidate_90 rfl (lv_at hl 3 rfl) ?_
      refine lv_lload hx hb dXKn_candidate_91 (lv_at hl 4 rfl) ?_
      refine lv_lor hx hb dXKn_candidate_93 ?_
      refine va_callv (va_runI (As := [.ref v1, .int x13, .int v2, .long v3, .long (v3 ||| v5)]) (rest := [.ref q7]) ⟨hx, hb, hml, hown, hts⟩ (cKXMe_init h) (gc_XKn_72 hts hN ⟨Nat.le_of_ble_eq_true rfl, Nat.le_of_ble_eq_true rfl⟩) (k_preS hP hS hA hK hN hE) rfl rfl hl.1 rfl (lv_room (Nat.le_of_ble_eq_true rfl)) dXKn_candidate_94 ⟨show cells + 1 + 0 ≤ MC by omega, show slots + 5 + 0 ≤ MS by omega⟩) hS (fun _ _ q => q) (fun _ q => q) (fun w_15 t H locs ht hvm h hP hz hk hS => ?_)
      rw [fxC, ht] at hP
      refine W.cs (cells' := cells + 1) (slots' := slots + 5) rfl rfl ?_
      refine W.widen (k := MC) (n := MS) (by omega) (by omega) ?_
      exact W.aret hx hb hr (Or.inl ⟨_, rfl⟩) (Or.inr ⟨_, rfl⟩) (fun t ht hW => ⟨⟨(some q7), _, rfl, h, by rw [fxC, ht]; exact hP⟩, hS.F ht⟩) hS.2.2 dXKn_candidate_97 hlocks
    · replace h := h.2 c6
      refine lv_aload_n hx hb dXKn_candidate_20 rfl (lv_at hl 0 rfl) ?_
      refine lv_aload_n hx hb dXKn_candidate_21 rfl (lv_at hl 1 rfl) ?_
      obtain ⟨x16, g17, h⟩ := h
      refine kg_XKn_49 hx hb hown hts hN hK hP g17 dXKn_candidate_22 ?_
      refine lv_iload hx hb dXKn_candidate_25 (lv_at hl 5 rfl) ?_
      obtain ⟨n18, f19, g20, g21, h⟩ := h
      refine kla hx hb hK hP g20 g21 dXKn_candidate_27 ?_
      obtain ⟨fs23, g24, h⟩ := h
      refine va_calle (va_runV (As := [.long (f19 (Int32.toNatClampNeg v7))]) (rest := []) ⟨hx, hb, hml, hown, hts⟩ (cKXKn_find h) (gc_XKn_53 hts hN ⟨Nat.le_of_ble_eq_true rfl, Nat.le_of_ble_eq_true rfl⟩) (k_preV g24 rfl hP hS hA hK hN hE) rfl rfl hl.1 rfl (lv_room (Nat.le_of_ble_eq_true rfl)) dXKn_candidate_28 ⟨show cells + 0 ≤ MC by omega, show slots + 0 ≤ MS by omega⟩) hS (fun _ _ q => q) (fun _ q => q) (fun r22 w_22 t H locs ht hvm h hP hz hk hS => ?_)
      rw [fxC, ht] at hP
      refine W.cs (cells' := cells) (slots' := slots) rfl rfl ?_
      rcases e32 : r22 with _ | y25
      · replace h := h.1 e32
        subst e32
        refine lv_astoreN (lv' := [(8, .null), (0, .ref v0), (1, .ref v1), (2, .int v2), (3, .long v3), (5, .long v5), (7, .int v7)]) hx hb dXKn_candidate_31 hl (by decide) rfl (fun ls hl => ?_)
        refine lv_aloadN hx hb dXKn_candidate_33 (lv_at hl 0 rfl) ?_
        refine lv_ifnullN (tgt := 70) hx hb dXKn_candidate_35 (by decide) ?_
        refine lv_iinc (v := v7 + 1) (lv' := [(7, .int (v7 + 1)), (8, .null), (0, .ref v0), (1, .ref v1), (2, .int v2), (3, .long v3), (5, .long v5)]) hx hb dXKn_candidate_70 hl (k := 6) rfl rfl (by decide) rfl (fun ls hl => ?_)
        refine lv_goto (tgt := 10) hx hb dXKn_candidate_73 (by decide) ?_
        exact hK10 w_22 mc ms v0 v1 v2 v3 v5 (v7 + 1) h H locs ls hP hS (lv_sub hl [2, 3, 4, 5, 6, 0] rfl) _ _ hbc hbs
      · replace h := h.2 y25 e32
        subst e32
        refine lv_astore (lv' := [(8, .ref y25), (0, .ref v0), (1, .ref v1), (2, .int v2), (3, .long v3), (5, .long v5), (7, .int v7)]) hx hb dXKn_candidate_31 hl (by decide) rfl (fun ls hl => ?_)
        refine lv_aload hx hb dXKn_candidate_33 (lv_at hl 0 rfl) ?_
        refine lv_ifnull hx hb dXKn_candidate_35 ?_
        refine lv_iload_n hx hb dXKn_candidate_38 rfl (lv_at hl 3 rfl) ?_
        refine lv_aload hx hb dXKn_candidate_39 (lv_at hl 0 rfl) ?_
        obtain ⟨x26, g27, h⟩ := h
        refine kg_XKn_57 hx hb hown hts hN hK hP g27 dXKn_candidate_41 ?_
        refine lv_iconst (v := 1) hx hb dXKn_candidate_44 (by decide) ?_
        refine lv_iadd hx hb dXKn_candidate_45 ?_
        refine kmax_XKn_60 hx hb (by rw [hml]; exact hl.1.symm) hown hts (Nat.le_of_ble_eq_true rfl) (Nat.le_of_ble_eq_true rfl) (show cells ≤ MC by omega) (show slots ≤ MS by omega) dXKn_candidate_46 ?_
        refine lv_istore_n (lv' := [(2, .int (if v2 < (x26 + 1) then (x26 + 1) else v2)), (8, .ref y25), (0, .ref v0), (1, .ref v1), (3, .long v3), (5, .long v5), (7, .int v7)]) hx hb dXKn_candidate_49 rfl hl (by decide) rfl (fun ls hl => ?_)
        refine lv_lload_n hx hb dXKn_candidate_50 rfl (lv_at hl 4 rfl) ?_
        refine lv_lconst (v := 1) hx hb dXKn_candidate_51 (by decide) ?_
        refine lv_aload hx hb dXKn_candidate_52 (lv_at hl 1 rfl) ?_
        obtain ⟨x28, g29, h⟩ := h
        refine kg_XKn_66 hx hb hown hts hN hK hP g29 dXKn_candidate_54 ?_
        refine lv_lshl (v := hj_shl 1 x28) hx hb dXKn_candidate_57 rfl ?_
        refine lv_lor hx hb dXKn_candidate_58 ?_
        refine lv_lstore_n (lv' := [(3, .long (v3 ||| (hj_shl 1 x28))), (2, .int (if v2 < (x26 + 1) then (x26 + 1) else v2)), (8, .ref y25), (0, .ref v0), (1, .ref v1), (5, .long v5), (7, .int v7)]) hx hb dXKn_candidate_59 rfl hl (by decide) rfl (fun ls hl => ?_)
        refine lv_lload hx hb dXKn_candidate_60 (lv_at hl 5 rfl) ?_
        refine lv_aload hx hb dXKn_candidate_62 (lv_at hl 2 rfl) ?_
        obtain ⟨x30, g31, h⟩ := h
        refine kg_XKn_69 hx hb hown hts hN hK hP g31 dXKn_candidate_64 ?_
        refine lv_lor hx hb dXKn_candidate_67 ?_
        refine lv_lstore (lv' := [(5, .long (v5 ||| x30)), (3, .long (v3 ||| (hj_shl 1 x28))), (2, .int (if v2 < (x26 + 1) then (x26 + 1) else v2)), (8, .ref y25), (0, .ref v0), (1, .ref v1), (7, .int v7)]) hx hb dXKn_candidate_68 hl (by decide) rfl (fun ls hl => ?_)
        refine lv_iinc (v := v7 + 1) (lv' := [(7, .int (v7 + 1)), (5, .long (v5 ||| x30)), (3, .long (v3 ||| (hj_shl 1 x28))), (2, .int (if v2 < (x26 + 1) then (x26 + 1) else v2)), (8, .ref y25), (0, .ref v0), (1, .ref v1)]) hx hb dXKn_candidate_70 hl (k := 6) rfl rfl (by decide) rfl (fun ls hl => ?_)
        refine lv_goto (tgt := 10) hx hb dXKn_candidate_73 (by decide) ?_
        exact hK10 w_22 mc ms v0 v1 (if v2 < (x26 + 1) then (x26 + 1) else v2) (v3 ||| (hj_shl 1 x28)) (v5 ||| x30) (v7 + 1) h H locs ls hP hS (lv_sub hl [5, 6, 3, 2, 1, 0] rfl) _ _ hbc hbs
set_option maxRecDepth 100000 in
set_option maxHeartbeats 4000000 in
theorem sKXKn_candidate_in {p : Program} {l : Launch} {e : Env} {s : State} {m : MethodId} {args : Array Value} {below : List Frame} {meth : Method} {c : Code} {D : va_G} {ca : Nat → Nat} {A : Nat → Prop} {MC MS : Nat} {post : Option Nat → fh_T → Prop} (C0 : kCx p s m args meth c D ca A RXKn cXKn_candidate 9 (some (.object "HashLinkedWeb$Member")) "candidate") : ∀ (w : fh_T) (mc : Nat) (ms : Nat) (a0 : Nat) (a1 : Nat), wKXKn_candidate post w mc ms a0 a1 → ∀ (H : Heap) (locs : List Loc) (ls : Array Slot), fh_ok D ca A w H → va_S A s.heap H locs → lv_has ls 9 [(0, .ref a0), (1, .ref a1)] → ∀ cells slots : Nat, cells + mc = MC → slots + ms = MS → W p l e ({ frames := 2, cells := MC, slots := MS, locals := 67 } : Room) s m args below meth c H locs cells slots (MQ below (va_Qe (fun x => x) post (fxC (fh_ok D ca A)) A) args s MC MS A) (F0 m 0 ls []) := by
  obtain ⟨hx, hb, hr, hml, hown, hts, hlocks, hK, hN, hE, hA, hin⟩ := id C0
  intro w mc ms a0 a1 h H locs ls hP hS hl cells slots hbc hbs
  replace h : (∃ k, wKXKn_candidate_10 post  k w mc ms a0 a1 1 0 0 0) := h
  refine lv_iconst (v := 1) hx hb dXKn_candidate_0 (by decide) ?_
  refine lv_istore_n (lv' := [(2, .int 1), (0, .ref a0), (1, .ref a1)]) hx hb dXKn_candidate_1 rfl hl (by decide) rfl (fun ls hl => ?_)
  refine lv_lconst (v := 0) hx hb dXKn_candidate_2 (by decide) ?_
  refine lv_lstore_n (lv' := [(3, .long 0), (2, .int 1), (0, .ref a0), (1, .ref a1)]) hx hb dXKn_candidate_3 rfl hl (by decide) rfl (fun ls hl => ?_)
  refine lv_lconst (v := 0) hx hb dXKn_candidate_4 (by decide) ?_
  refine lv_lstore (lv' := [(5, .long 0), (3, .long 0), (2, .int 1), (0, .ref a0), (1, .ref a1)]) hx hb dXKn_candidate_5 hl (by decide) rfl (fun ls hl => ?_)
  refine lv_iconst (v := 0) hx hb dXKn_candidate_7 (by decide) ?_
  refine lv_istore (lv' := [(7, .int 0), (5, .long 0), (3, .long 0), (2, .int 1), (0, .ref a0), (1, .ref a1)]) hx hb dXKn_candidate_8 hl (by decide) rfl (fun ls hl => ?_)
  obtain ⟨k, h⟩ := h
  exact sKXKn_candidate_10  C0  k w mc ms a0 a1 1 0 0 0 h H locs ls hP hS (lv_sub hl [4, 5, 3, 2, 1, 0] rfl) _ _ hbc hbs
set_option maxRecDepth 100000 in
set_option maxHeartbeats 4000000 in
theorem cKXKn_candidate {l : Launch} {D : va_G} {ca : Nat → Nat} {A : Nat → Prop} {post : Option Nat → fh_T → Prop} {w : fh_T} {mc : Nat} {ms : Nat} {a0 : Nat} {a1 : Nat} (h : wKXKn_candidate post w mc ms a0 a1) : Met l yXKn_candidate (.code yXKn_candidate cXKn_candidate 9 (some (.object "HashLinkedWeb$Member")) :: lg_tbl) ({ frames := 2, cells := mc, slots := ms, locals := 67 } : Room) (va_Pc [.ref a0, .ref a1] (kB D ca A w)) (va_Qe (fun x => x) post (fxC (fh_ok D ca A)) A) mc ms A := by
  refine fx_start (by decide +kernel) (Nat.le_of_ble_eq_true rfl) ?_
  intro p e s m below meth c ls hx hb hr hml hown hts hlocks hnm hB hl
  exact sKXKn_candidate_in ⟨hx, hb, hr, hml, hown, hts, hlocks, hB.2.2.1, hB.2.2.2.1, hB.2.2.2.2, hB.2.1, hnm⟩ w mc ms a0 a1 h _ _ ls hB.1 va_S.rf hl 0 0 (Nat.zero_add _) (Nat.zero_add _)
def wKXKn_isFull (post : Int32 → fh_T → Prop) (w : fh_T) (a0 : Nat) : Prop := (∃ x1, fh_g w a0 2 0 (.ref x1) ∧ (∃ x3, fh_g w x1 3 1 (.int x3) ∧ ((x3 < 40 → (post 0 w)) ∧ (¬ x3 < 40 → (post 1 w)))))
set_option maxRecDepth 100000 in
set_option maxHeartbeats 4000000 in
theorem sKXKn_isFull_in {p : Program} {l : Launch} {e : Env} {s : State} {m : MethodId} {args : Array Value} {below : List Frame} {meth : Method} {c : Code} {D : va_G} {ca : Nat → Nat} {A : Nat → Prop} {post : Int32 → fh_T → Prop} (C0 : kCx p s m args meth c D ca A RXKn cXKn_isFull 1 (some .boolean) "isFull") : ∀ (w : fh_T) (a0 : Nat), wKXKn_isFull post w a0 → ∀ (H : Heap) (locs : List Loc) (ls : Array Slot), fh_ok D ca A w H → va_S A s.heap H locs → lv_has ls 1 [(0, .ref a0)] → W p l e ({ frames := 0, cells := 0, slots := 0, locals := 0 } : Room) s m args below meth c H locs 0 0 (MQ below (va_Qi post (fxC (fh_ok D ca A)) A) args s 0 0 A) (F0 m 0 ls []) := by
  obtain ⟨hx, hb, hr, hml, hown, hts, hlocks, hK, hN, hE, hA, hin⟩ := id C0
  intro w a0 h H locs ls hP hS hl
  replace h : (∃ x1, fh_g w a0 2 0 (.ref x1) ∧ (∃ x3, fh_g w x1 3 1 (.int x3) ∧ ((x3 < 40 → (post 0 w)) ∧ (¬ x3 < 40 → (post 1 w))))) := h
  refine lv_aload_n hx hb dXKn_isFull_0 rfl (lv_at hl 0 rfl) ?_
  obtain ⟨x1, g2, h⟩ := h
  refine kg_XKn_12 hx hb hown hts hN hK hP g2 dXKn_isFull_1 ?_
  obtain ⟨x3, g4, h⟩ := h
  refine kg_XKn_18 hx hb hown hts hN hK hP g4 dXKn_isFull_4 ?_
  refine lv_bipush (v := 40) hx hb dXKn_isFull_7 (by decide) ?_
  refine lv_icmp_lt (tgt := 16) hx hb dXKn_isFull_9 (by decide) (fun c5 => ?_) (fun c5 => ?_)
  · replace h := h.1 c5
    refine lv_iconst (v := 0) hx hb dXKn_isFull_16 (by decide) ?_
    exact W.zret hx hb hr rfl (fun t ht hW => ⟨⟨_, _, rfl, h, by rw [fxC, ht]; exact hP⟩, hS.F ht⟩) hS.2.2 dXKn_isFull_17 hlocks
  · replace h := h.2 c5
    refine lv_iconst (v := 1) hx hb dXKn_isFull_12 (by decide) ?_
    refine lv_goto (tgt := 17) hx hb dXKn_isFull_13 (by decide) ?_
    exact W.zret hx hb hr rfl (fun t ht hW => ⟨⟨_, _, rfl, h, by rw [fxC, ht]; exact hP⟩, hS.F ht⟩) hS.2.2 dXKn_isFull_17 hlocks
set_option maxRecDepth 100000 in
set_option maxHeartbeats 4000000 in
theorem cKXKn_isFull {l : Launch} {D : va_G} {ca : Nat → Nat} {A : Nat → Prop} {post : Int32 → fh_T → Prop} {w : fh_T} {a0 : Nat} (h : wKXKn_isFull post w a0) : Met l yXKn_isFull (.code yXKn_isFull cXKn_isFull 1 (some .boolean) :: lg_tbl) ({ frames := 0, cells := 0, slots := 0, locals := 0 } : Room) (va_Pc [.ref a0] (kB D ca A w)) (va_Qi post (fxC (fh_ok D ca A)) A) 0 0 A := by
  refine fx_start (by decide +kernel) (Nat.le_of_ble_eq_true rfl) ?_
  intro p e s m below meth c ls hx hb hr hml hown hts hlocks hnm hB hl
  exact sKXKn_isFull_in ⟨hx, hb, hr, hml, hown, hts, hlocks, hB.2.2.1, hB.2.2.2.1, hB.2.2.2.2, hB.2.1, hnm⟩ w a0 h _ _ ls hB.1 va_S.rf hl
def wKXOp_isOf (post : Int32 → fh_T → Prop) (w : fh_T) (a0 : Nat) (a1 : Int32) (a2 : Int32) : Prop := (∃ x1, fh_g w a0 5 1 (.int x1) ∧ ((¬ x1 = a1 → (post 0 w)) ∧ (x1 = a1 → (∃ x4, fh_g w a0 5 2 (.int x4) ∧ ((¬ x4 = a2 → (post 0 w)) ∧ (x4 = a2 → (post 1 w)))))))
set_option maxRecDepth 100000 in
set_option maxHeartbeats 4000000 in
theorem sKXOp_isOf_in {p : Program} {l : Launch} {e : Env} {s : State} {m : MethodId} {args : Array Value} {below : List Frame} {meth : Method} {c : Code} {D : va_G} {ca : Nat → Nat} {A : Nat → Prop} {post : Int32 → fh_T → Prop} (C0 : kCx p s m args meth c D ca A RXOp cXOp_isOf 3 (some .boolean) "isOf") : ∀ (w : fh_T) (a0 : Nat) (a1 : Int32) (a2 : Int32), wKXOp_isOf post w a0 a1 a2 → ∀ (H : Heap) (locs : List Loc) (ls : Array Slot), fh_ok D ca A w H → va_S A s.heap H locs → lv_has ls 3 [(0, .ref a0), (1, .int a1), (2, .int a2)] → W p l e ({ frames := 0, cells := 0, slots := 0, locals := 0 } : Room) s m args below meth c H locs 0 0 (MQ below (va_Qi post (fxC (fh_ok D ca A)) A) args s 0 0 A) (F0 m 0 ls []) := by
  obtain ⟨hx, hb, hr, hml, hown, hts, hlocks, hK, hN, hE, hA, hin⟩ := id C0
  intro w a0 a1 a2 h H locs ls hP hS hl
  replace h : (∃ x1, fh_g w a0 5 1 (.int x1) ∧ ((¬ x1 = a1 → (post 0 w)) ∧ (x1 = a1 → (∃ x4, fh_g w a0 5 2 (.int x4) ∧ ((¬ x4 = a2 → (post 0 w)) ∧ (x4 = a2 → (post 1 w))))))) := h
  refine lv_aload_n hx hb dXOp_isOf_0 rfl (lv_at hl 0 rfl) ?_
  obtain ⟨x1, g2, h⟩ := h
  refine kg_XOp_15 hx hb hown hts hN hK hP g2 dXOp_isOf_1 ?_
  refine lv_iload_n hx hb dXOp_isOf_4 rfl (lv_at hl 1 rfl) ?_
  refine lv_icmp_ne (tgt := 20) hx hb dXOp_isOf_5 (by decide) (fun c3 => ?_) (fun c3 => ?_)
  · replace h := h.1 c3
    refine lv_iconst (v := 0) hx hb dXOp_isOf_20 (by decide) ?_
    exact W.zret hx hb hr rfl (fun t ht hW => ⟨⟨_, _, rfl, h, by rw [fxC, ht]; exact hP⟩, hS.F ht⟩) hS.2.2 dXOp_isOf_21 hlocks
  · replace h := h.2 c3
    refine lv_aload_n hx hb dXOp_isOf_8 rfl (lv_at hl 0 rfl) ?_
    obtain ⟨x4, g5, h⟩ := h
    refine kg_XOp_18 hx hb hown hts hN hK hP g5 dXOp_isOf_9 ?_
    refine lv_iload_n hx hb dXOp_isOf_12 rfl (lv_at hl 2 rfl) ?_
    refine lv_icmp_ne (tgt := 20) hx hb dXOp_isOf_13 (by decide) (fun c6 => ?_) (fun c6 => ?_)
    · replace h := h.1 c6
      refine lv_iconst (v := 0) hx hb dXOp_isOf_20 (by decide) ?_
      exact W.zret hx hb hr rfl (fun t ht hW => ⟨⟨_, _, rfl, h, by rw [fxC, ht]; exact hP⟩, hS.F ht⟩) hS.2.2 dXOp_isOf_21 hlocks
    · replace h := h.2 c6
      refine lv_iconst (v := 1) hx hb dXOp_isOf_16 (by decide) ?_
      refine lv_goto (tgt := 21) hx hb dXOp_isOf_17 (by decide) ?_
      exact W.zret hx hb hr rfl (fun t ht hW => ⟨⟨_, _, rfl, h, by rw [fxC, ht]; exact hP⟩, hS.F ht⟩) hS.2.2 dXOp_isOf_21 hlocks
set_option maxRecDepth 100000 in
set_option maxHeartbeats 4000000 in
theorem cKXOp_isOf {l : Launch} {D : va_G} {ca : Nat → Nat} {A : Nat → Prop} {post : Int32 → fh_T → Prop} {w : fh_T} {a0 : Nat} {a1 : Int32} {a2 : Int32} (h : wKXOp_isOf post w a0 a1 a2) : Met l yXOp_isOf (.code yXOp_isOf cXOp_isOf 3 (some .boolean) :: lg_tbl) ({ frames := 0, cells := 0, slots := 0, locals := 0 } : Room) (va_Pc [.ref a0, .int a1, .int a2] (kB D ca A w)) (va_Qi post (fxC (fh_ok D ca A)) A) 0 0 A := by
  refine fx_start (by decide +kernel) (Nat.le_of_ble_eq_true rfl) ?_
  intro p e s m below meth c ls hx hb hr hml hown hts hlocks hnm hB hl
  exact sKXOp_isOf_in ⟨hx, hb, hr, hml, hown, hts, hlocks, hB.2.2.1, hB.2.2.2.1, hB.2.2.2.2, hB.2.1, hnm⟩ w a0 a1 a2 h _ _ ls hB.1 va_S.rf hl
def wKXKn_isLockAgainst (post : Int32 → fh_T → Prop) (w : fh_T) (a1 : Nat) (a2 : Nat) : Prop := (∃ x1, fh_g w a2 7 4 (.long x1) ∧ (∃ x3, fh_g w a1 7 1 (.int x3) ∧ (wKXW_contains (fun r5 w_5 => ((r5 = 0 → (post 0 w_5)) ∧ (¬ r5 = 0 → (∃ x7, fh_g w_5 a1 7 0 (.ref x7) ∧ (∃ x9, fh_g w_5 a2 7 0 (.ref x9) ∧ (∃ x11, fh_g w_5 x9 5 2 (.int x11) ∧ (∃ fs14, w_5 x7 = some (.inr (5, fs14)) ∧ (wKXOp_isOf (fun r13 w_13 => ((r13 = 0 → (post 0 w_13)) ∧ (¬ r13 = 0 → (∃ x17, fh_g w_13 a1 7 0 (.ref x17) ∧ (∃ x19, fh_g w_13 x17 5 0 (.int x19) ∧ (∃ x21, fh_g w_13 a2 7 0 (.ref x21) ∧ (∃ x23, fh_g w_13 x21 5 0 (.int x23) ∧ ((x19 = x23 → (post 0 w_13)) ∧ (¬ x19 = x23 → (post 1 w_13)))))))))) w_5 x7 2 x11)))))))) w x1 x3)))
set_option maxRecDepth 100000 in
set_option maxHeartbeats 4000000 in
theorem sKXKn_isLockAgainst_in {p : Program} {l : Launch} {e : Env} {s : State} {m : MethodId} {args : Array Value} {below : List Frame} {meth : Method} {c : Code} {D : va_G} {ca : Nat → Nat} {A : Nat → Prop} {post : Int32 → fh_T → Prop} (C0 : kCx p s m args meth c D ca A RXKn cXKn_isLockAgainst 2 (some .boolean) "isLockAgainst") : ∀ (w : fh_T) (a1 : Nat) (a2 : Nat), wKXKn_isLockAgainst post w a1 a2 → ∀ (H : Heap) (locs : List Loc) (ls : Array Slot), fh_ok D ca A w H → va_S A s.heap H locs → lv_has ls 2 [(0, .ref a1), (1, .ref a2)] → W p l e ({ frames := 1, cells := 0, slots := 0, locals := 22 } : Room) s m args below meth c H locs 0 0 (MQ below (va_Qi post (fxC (fh_ok D ca A)) A) args s 0 0 A) (F0 m 0 ls []) := by
  obtain ⟨hx, hb, hr, hml, hown, hts, hlocks, hK, hN, hE, hA, hin⟩ := id C0
  intro w a1 a2 h H locs ls hP hS hl
  replace h : (∃ x1, fh_g w a2 7 4 (.long x1) ∧ (∃ x3, fh_g w a1 7 1 (.int x3) ∧ (wKXW_contains (fun r5 w_5 => ((r5 = 0 → (post 0 w_5)) ∧ (¬ r5 = 0 → (∃ x7, fh_g w_5 a1 7 0 (.ref x7) ∧ (∃ x9, fh_g w_5 a2 7 0 (.ref x9) ∧ (∃ x11, fh_g w_5 x9 5 2 (.int x11) ∧ (∃ fs14, w_5 x7 = some (.inr (5, fs14)) ∧ (wKXOp_isOf (fun r13 w_13 => ((r13 = 0 → (post 0 w_13)) ∧ (¬ r13 = 0 → (∃ x17, fh_g w_13 a1 7 0 (.ref x17) ∧ (∃ x19, fh_g w_13 x17 5 0 (.int x19) ∧ (∃ x21, fh_g w_13 a2 7 0 (.ref x21) ∧ (∃ x23, fh_g w_13 x21 5 0 (.int x23) ∧ ((x19 = x23 → (post 0 w_13)) ∧ (¬ x19 = x23 → (post 1 w_13)))))))))) w_5 x7 2 x11)))))))) w x1 x3))) := h
  refine lv_aload_n hx hb dXKn_isLockAgainst_0 rfl (lv_at hl 1 rfl) ?_
  obtain ⟨x1, g2, h⟩ := h
  refine kg_XKn_69 hx hb hown hts hN hK hP g2 dXKn_isLockAgainst_1 ?_
  refine lv_aload_n hx hb dXKn_isLockAgainst_4 rfl (lv_at hl 0 rfl) ?_
  obtain ⟨x3, g4, h⟩ := h
  refine kg_XKn_66 hx hb hown hts hN hK hP g4 dXKn_isLockAgainst_5 ?_
  refine va_calli (va_runSN (As := [.long x1, .int x3]) (rest := []) ⟨hx, hb, hml, hown, hts⟩ (cKXW_contains h) (gc_XKn_42 hts hN ⟨Nat.le_of_ble_eq_true rfl, Nat.le_of_ble_eq_true rfl⟩) (k_preS hP hS hA hK hN hE) rfl rfl hl.1 rfl (lv_room (Nat.le_of_ble_eq_true rfl)) dXKn_isLockAgainst_8 ⟨Nat.le_of_ble_eq_true rfl, Nat.le_of_ble_eq_true rfl⟩) hS (fun _ _ q => q) (fun _ q => q) (fun r5 w_5 t H locs ht hvm h hP hz hk hS => ?_)
  rw [fxC, ht] at hP
  refine lv_if_eq (tgt := 53) hx hb dXKn_isLockAgainst_11 (by decide) (fun c6 => ?_) (fun c6 => ?_)
  · replace h := h.1 c6
    refine lv_iconst (v := 0) hx hb dXKn_isLockAgainst_53 (by decide) ?_
    exact W.zret hx hb hr rfl (fun t ht hW => ⟨⟨_, _, rfl, h, by rw [fxC, ht]; exact hP⟩, hS.F ht⟩) hS.2.2 dXKn_isLockAgainst_54 hlocks
  · replace h := h.2 c6
    refine lv_aload_n hx hb dXKn_isLockAgainst_14 rfl (lv_at hl 0 rfl) ?_
    obtain ⟨x7, g8, h⟩ := h
    refine kg_XKn_30 hx hb hown hts hN hK hP g8 dXKn_isLockAgainst_15 ?_
    refine lv_iconst (v := 2) hx hb dXKn_isLockAgainst_18 (by decide) ?_
    refine lv_aload_n hx hb dXKn_isLockAgainst_19 rfl (lv_at hl 1 rfl) ?_
    obtain ⟨x9, g10, h⟩ := h
    refine kg_XKn_30 hx hb hown hts hN hK hP g10 dXKn_isLockAgainst_20 ?_
    obtain ⟨x11, g12, h⟩ := h
    refine kg_XKn_82 hx hb hown hts hN hK hP g12 dXKn_isLockAgainst_23 ?_
    obtain ⟨fs14, g15, h⟩ := h
    refine va_calli (va_runV (As := [.int 2, .int x11]) (rest := []) ⟨hx, hb, hml, hown, hts⟩ (cKXOp_isOf h) (gc_XKn_85 hts hN ⟨Nat.le_of_ble_eq_true rfl, Nat.le_of_ble_eq_true rfl⟩) (k_preV g15 rfl hP hS hA hK hN hE) rfl rfl hl.1 rfl (lv_room (Nat.le_of_ble_eq_true rfl)) dXKn_isLockAgainst_26 ⟨Nat.le_of_ble_eq_true rfl, Nat.le_of_ble_eq_true rfl⟩) hS (fun _ _ q => q) (fun _ q => q) (fun r13 w_13 t H locs ht hvm h hP hz hk hS => ?_)
    rw [fxC, ht] at hP
    refine lv_if_eq (tgt := 53) hx hb dXKn_isLockAgainst_29 (by decide) (fun c16 => ?_) (fun c16 => ?_)
    · replace h := h.1 c16
      refine lv_iconst (v := 0) hx hb dXKn_isLockAgainst_53 (by decide) ?_
      exact W.zret hx hb hr rfl (fun t ht hW => ⟨⟨_, _, rfl, h, by rw [fxC, ht]; exact hP⟩, hS.F ht⟩) hS.2.2 dXKn_isLockAgainst_54 hlocks
    · replace h := h.2 c16
      refine lv_aload_n hx hb dXKn_isLockAgainst_32 rfl (lv_at hl 0 rfl) ?_
      obtain ⟨x17, g18, h⟩ := h
      refine kg_XKn_30 hx hb hown hts hN hK hP g18 dXKn_isLockAgainst_33 ?_
      obtain ⟨x19, g20, h⟩ := h
      refine kg_XKn_89 hx hb hown hts hN hK hP g20 dXKn_isLockAgainst_36 ?_
      refine lv_aload_n hx hb dXKn_isLockAgainst_39 rfl (lv_at hl 1 rfl) ?_
      obtain ⟨x21, g22, h⟩ := h
      refine kg_XKn_30 hx hb hown hts hN hK hP g22 dXKn_isLockAgainst_40 ?_
      obtain ⟨x23, g24, h⟩ := h
      refine kg_XKn_89 hx hb hown hts hN hK hP g24 dXKn_isLockAgainst_43 ?_
      refine lv_icmp_eq (tgt := 53) hx hb dXKn_isLockAgainst_46 (by decide) (fun c25 => ?_) (fun c25 => ?_)
      · replace h := h.1 c25
        refine lv_iconst (v := 0) hx hb dXKn_isLockAgainst_53 (by decide) ?_
        exact W.zret hx hb hr rfl (fun t ht hW => ⟨⟨_, _, rfl, h, by rw [fxC, ht]; exact hP⟩, hS.F ht⟩) hS.2.2 dXKn_isLockAgainst_54 hlocks
      · replace h := h.2 c25
        refine lv_iconst (v := 1) hx hb dXKn_isLockAgainst_49 (by decide) ?_
        refine lv_goto (tgt := 54) hx hb dXKn_isLockAgainst_50 (by decide) ?_
        exact W.zret hx hb hr rfl (fun t ht hW => ⟨⟨_, _, rfl, h, by rw [fxC, ht]; exact hP⟩, hS.F ht⟩) hS.2.2 dXKn_isLockAgainst_54 hlocks
set_option maxRecDepth 100000 in
set_option maxHeartbeats 4000000 in
theorem cKXKn_isLockAgainst {l : Launch} {D : va_G} {ca : Nat → Nat} {A : Nat → Prop} {post : Int32 → fh_T → Prop} {w : fh_T} {a1 : Nat} {a2 : Nat} (h : wKXKn_isLockAgainst post w a1 a2) : Met l yXKn_isLockAgainst (.code yXKn_isLockAgainst cXKn_isLockAgainst 2 (some .boolean) :: lg_tbl) ({ frames := 1, cells := 0, slots := 0, locals := 22 } : Room) (va_Pc [.ref a1, .ref a2] (kB D ca A w)) (va_Qi post (fxC (fh_ok D ca A)) A) 0 0 A := by
  refine fx_start (by decide +kernel) (Nat.le_of_ble_eq_true rfl) ?_
  intro p e s m below meth c ls hx hb hr hml hown hts hlocks hnm hB hl
  exact sKXKn_isLockAgainst_in ⟨hx, hb, hr, hml, hown, hts, hlocks, hB.2.2.1, hB.2.2.2.1, hB.2.2.2.2, hB.2.1, hnm⟩ w a1 a2 h _ _ ls hB.1 va_S.rf hl
noncomputable def wKXKn_isFreed_2 (post : Int32 → fh_T → Prop) (n : Nat) : fh_T → Nat → Nat → Nat → Int32 → Prop := Nat.rec (motive := fun _ => fh_T → Nat → Nat → Nat → Int32 → Prop) (fun _ _ _ _ _ => False) (fun _ K2 w v0 v1 v2 v3 => (∃ x1, fh_g w v0 2 0 (.ref x1) ∧ (∃ x3, fh_g w x1 3 1 (.int x3) ∧ ((x3 ≤ v3 → (post 0 w)) ∧ (¬ x3 ≤ v3 → (∃ x6, fh_g w v0 2 0 (.ref x6) ∧ (∃ x8, fh_g w x6 3 0 (.ref x8) ∧ (∃ n10 f11 y12, w x8 = some (.inl (0, n10, .inr (.inr (.inr (.inr f11))))) ∧ vp_in v3 n10 ∧ f11 (Int32.toNatClampNeg v3) = some y12 ∧ (∃ x16, fh_g w v2 7 4 (.long x16) ∧ (wKXW_contains (fun r18 w_18 => ((r18 = 0 → (K2 w_18 v0 v1 v2 (v3 + 1))) ∧ (¬ r18 = 0 → (∃ x20, fh_g w_18 y12 7 0 (.ref x20) ∧ (∃ x22, fh_g w_18 v1 7 0 (.ref x22) ∧ (∃ x24, fh_g w_18 x22 5 2 (.int x24) ∧ (∃ fs27, w_18 x20 = some (.inr (5, fs27)) ∧ (wKXOp_isOf (fun r26 w_26 => ((r26 = 0 → (K2 w_26 v0 v1 v2 (v3 + 1))) ∧ (¬ r26 = 0 → (∃ x30, fh_g w_26 y12 7 0 (.ref x30) ∧ (∃ x32, fh_g w_26 x30 5 0 (.int x32) ∧ (∃ x34, fh_g w_26 v1 7 0 (.ref x34) ∧ (∃ x36, fh_g w_26 x34 5 0 (.int x36) ∧ ((¬ x32 = x36 → (K2 w_26 v0 v1 v2 (v3 + 1))) ∧ (x32 = x36 → (∃ x39, fh_g w_26 y12 7 4 (.long x39) ∧ (∃ x41, fh_g w_26 v1 7 1 (.int x41) ∧ (wKXW_contains (fun r43 w_43 => ((r43 = 0 → (K2 w_43 v0 v1 v2 (v3 + 1))) ∧ (¬ r43 = 0 → (post 1 w_43)))) w_26 x39 x41)))))))))))) w_18 x20 3 x24)))))))) w x16 v3)))))))))) n
def wKXKn_isFreed (post : Int32 → fh_T → Prop) (w : fh_T) (a0 : Nat) (a1 : Nat) (a2 : Nat) : Prop := (∃ k, wKXKn_isFreed_2 post  k w a0 a1 a2 0)
set_option maxRecDepth 100000 in
set_option maxHeartbeats 4000000 in
theorem sKXKn_isFreed_2 {p : Program} {l : Launch} {e : Env} {s : State} {m : MethodId} {args : Array Value} {below : List Frame} {meth : Method} {c : Code} {D : va_G} {ca : Nat → Nat} {A : Nat → Prop} {post : Int32 → fh_T → Prop} (C0 : kCx p s m args meth c D ca A RXKn cXKn_isFreed 5 (some .boolean) "isFreed") : ∀ (n : Nat) (w : fh_T) (v0 : Nat) (v1 : Nat) (v2 : Nat) (v3 : Int32), wKXKn_isFreed_2 post  n w v0 v1 v2 v3 → ∀ (H : Heap) (locs : List Loc) (ls : Array Slot), fh_ok D ca A w H → va_S A s.heap H locs → lv_has ls 5 [(0, .ref v0), (1, .ref v1), (2, .ref v2), (3, .int v3)] → W p l e ({ frames := 1, cells := 0, slots := 0, locals := 22 } : Room) s m args below meth c H locs 0 0 (MQ below (va_Qi post (fxC (fh_ok D ca A)) A) args s 0 0 A) (F0 m 2 ls []) := by
  obtain ⟨hx, hb, hr, hml, hown, hts, hlocks, hK, hN, hE, hA, hin⟩ := id C0
  intro n
  induction n with
  | zero => exact fun _ _ _ _ _ h => h.elim
  | succ n hK2 =>
    intro w v0 v1 v2 v3 h H locs ls hP hS hl
    replace h : (∃ x1, fh_g w v0 2 0 (.ref x1) ∧ (∃ x3, fh_g w x1 3 1 (.int x3) ∧ ((x3 ≤ v3 → (post 0 w)) ∧ (¬ x3 ≤ v3 → (∃ x6, fh_g w v0 2 0 (.ref x6) ∧ (∃ x8, fh_g w x6 3 0 (.ref x8) ∧ (∃ n10 f11 y12, w x8 = some (.inl (0, n10, .inr (.inr (.inr (.inr f11))))) ∧ vp_in v3 n10 ∧ f11 (Int32.toNatClampNeg v3) = some y12 ∧ (∃ x16, fh_g w v2 7 4 (.long x16) ∧ (wKXW_contains (fun r18 w_18 => ((r18 = 0 → ((wKXKn_isFreed_2 post  n) w_18 v0 v1 v2 (v3 + 1))) ∧ (¬ r18 = 0 → (∃ x20, fh_g w_18 y12 7 0 (.ref x20) ∧ (∃ x22, fh_g w_18 v1 7 0 (.ref x22) ∧ (∃ x24, fh_g w_18 x22 5 2 (.int x24) ∧ (∃ fs27, w_18 x20 = some (.inr (5, fs27)) ∧ (wKXOp_isOf (fun r26 w_26 => ((r26 = 0 → ((wKXKn_isFreed_2 post  n) w_26 v0 v1 v2 (v3 + 1))) ∧ (¬ r26 = 0 → (∃ x30, fh_g w_26 y12 7 0 (.ref x30) ∧ (∃ x32, fh_g w_26 x30 5 0 (.int x32) ∧ (∃ x34, fh_g w_26 v1 7 0 (.ref x34) ∧ (∃ x36, fh_g w_26 x34 5 0 (.int x36) ∧ ((¬ x32 = x36 → ((wKXKn_isFreed_2 post  n) w_26 v0 v1 v2 (v3 + 1))) ∧ (x32 = x36 → (∃ x39, fh_g w_26 y12 7 4 (.long x39) ∧ (∃ x41, fh_g w_26 v1 7 1 (.int x41) ∧ (wKXW_contains (fun r43 w_43 => ((r43 = 0 → ((wKXKn_isFreed_2 post  n) w_43 v0 v1 v2 (v3 + 1))) ∧ (¬ r43 = 0 → (post 1 w_43)))) w_26 x39 x41)))))))))))) w_18 x20 3 x24)))))))) w x16 v3))))))))) := h
    refine lv_iload_n hx hb dXKn_isFreed_2 rfl (lv_at hl 3 rfl) ?_
    refine lv_aload_n hx hb dXKn_isFreed_3 rfl (lv_at hl 0 rfl) ?_
    obtain ⟨x1, g2, h⟩ := h
    refine kg_XKn_12 hx hb hown hts hN hK hP g2 dXKn_isFreed_4 ?_
    obtain ⟨x3, g4, h⟩ := h
    refine kg_XKn_18 hx hb hown hts hN hK hP g4 dXKn_isFreed_7 ?_
    refine lv_icmp_ge (tgt := 95) hx hb dXKn_isFreed_10 (by decide) (fun c5 => ?_) (fun c5 => ?_)
    · replace h := h.1 c5
      refine lv_iconst (v := 0) hx hb dXKn_isFreed_95 (by decide) ?_
      exact W.zret hx hb hr rfl (fun t ht hW => ⟨⟨_, _, rfl, h, by rw [fxC, ht]; exact hP⟩, hS.F ht⟩) hS.2.2 dXKn_isFreed_96 hlocks
    · replace h := h.2 c5
      refine lv_aload_n hx hb dXKn_isFreed_13 rfl (lv_at hl 0 rfl) ?_
      obtain ⟨x6, g7, h⟩ := h
      refine kg_XKn_12 hx hb hown hts hN hK hP g7 dXKn_isFreed_14 ?_
      obtain ⟨x8, g9, h⟩ := h
      refine kg_XKn_26 hx hb hown hts hN hK hP g9 dXKn_isFreed_17 ?_
      refine lv_iload_n hx hb dXKn_isFreed_20 rfl (lv_at hl 3 rfl) ?_
      obtain ⟨n10, f11, y12, g13, g14, g15, h⟩ := h
      refine kaa 0 rfl rfl hx hb hK hP g13 g14 g15 dXKn_isFreed_21 ?_
      refine lv_astore (lv' := [(4, .ref y12), (0, .ref v0), (1, .ref v1), (2, .ref v2), (3, .int v3)]) hx hb dXKn_isFreed_22 hl (by decide) rfl (fun ls hl => ?_)
      refine lv_aload_n hx hb dXKn_isFreed_24 rfl (lv_at hl 3 rfl) ?_
      obtain ⟨x16, g17, h⟩ := h
      refine kg_XKn_69 hx hb hown hts hN hK hP g17 dXKn_isFreed_25 ?_
      refine lv_iload_n hx hb dXKn_isFreed_28 rfl (lv_at hl 4 rfl) ?_
      refine va_calli (va_runSN (As := [.long x16, .int v3]) (rest := []) ⟨hx, hb, hml, hown, hts⟩ (cKXW_contains h) (gc_XKn_42 hts hN ⟨Nat.le_of_ble_eq_true rfl, Nat.le_of_ble_eq_true rfl⟩) (k_preS hP hS hA hK hN hE) rfl rfl hl.1 rfl (lv_room (Nat.le_of_ble_eq_true rfl)) dXKn_isFreed_29 ⟨Nat.le_of_ble_eq_true rfl, Nat.le_of_ble_eq_true rfl⟩) hS (fun _ _ q => q) (fun _ q => q) (fun r18 w_18 t H locs ht hvm h hP hz hk hS => ?_)
      rw [fxC, ht] at hP
      refine lv_if_eq (tgt := 89) hx hb dXKn_isFreed_32 (by decide) (fun c19 => ?_) (fun c19 => ?_)
      · replace h := h.1 c19
        refine lv_iinc (v := v3 + 1) (lv' := [(3, .int (v3 + 1)), (4, .ref y12), (0, .ref v0), (1, .ref v1), (2, .ref v2)]) hx hb dXKn_isFreed_89 hl (k := 4) rfl rfl (by decide) rfl (fun ls hl => ?_)
        refine lv_goto (tgt := 2) hx hb dXKn_isFreed_92 (by decide) ?_
        exact hK2 w_18 v0 v1 v2 (v3 + 1) h H locs ls hP hS (lv_sub hl [2, 3, 4, 0] rfl)
      · replace h := h.2 c19
        refine lv_aload hx hb dXKn_isFreed_35 (lv_at hl 0 rfl) ?_
        obtain ⟨x20, g21, h⟩ := h
        refine kg_XKn_30 hx hb hown hts hN hK hP g21 dXKn_isFreed_37 ?_
        refine lv_iconst (v := 3) hx hb dXKn_isFreed_40 (by decide) ?_
        refine lv_aload_n hx hb dXKn_isFreed_41 rfl (lv_at hl 2 rfl) ?_
        obtain ⟨x22, g23, h⟩ := h
        refine kg_XKn_30 hx hb hown hts hN hK hP g23 dXKn_isFreed_42 ?_
        obtain ⟨x24, g25, h⟩ := h
        refine kg_XKn_82 hx hb hown hts hN hK hP g25 dXKn_isFreed_45 ?_
        obtain ⟨fs27, g28, h⟩ := h
        refine va_calli (va_runV (As := [.int 3, .int x24]) (rest := []) ⟨hx, hb, hml, hown, hts⟩ (cKXOp_isOf h) (gc_XKn_85 hts hN ⟨Nat.le_of_ble_eq_true rfl, Nat.le_of_ble_eq_true rfl⟩) (k_preV g28 rfl hP hS hA hK hN hE) rfl rfl hl.1 rfl (lv_room (Nat.le_of_ble_eq_true rfl)) dXKn_isFreed_48 ⟨Nat.le_of_ble_eq_true rfl, Nat.le_of_ble_eq_true rfl⟩) hS (fun _ _ q => q) (fun _ q => q) (fun r26 w_26 t H locs ht hvm h hP hz hk hS => ?_)
        rw [fxC, ht] at hP
        refine lv_if_eq (tgt := 89) hx hb dXKn_isFreed_51 (by decide) (fun c29 => ?_) (fun c29 => ?_)
        · replace h := h.1 c29
          refine lv_iinc (v := v3 + 1) (lv' := [(3, .int (v3 + 1)), (4, .ref y12), (0, .ref v0), (1, .ref v1), (2, .ref v2)]) hx hb dXKn_isFreed_89 hl (k := 4) rfl rfl (by decide) rfl (fun ls hl => ?_)
          refine lv_goto (tgt := 2) hx hb dXKn_isFreed_92 (by decide) ?_
          exact hK2 w_26 v0 v1 v2 (v3 + 1) h H locs ls hP hS (lv_sub hl [2, 3, 4, 0] rfl)
        · replace h := h.2 c29
          refine lv_aload hx hb dXKn_isFreed_54 (lv_at hl 0 rfl) ?_
          obtain ⟨x30, g31, h⟩ := h
          refine kg_XKn_30 hx hb hown hts hN hK hP g31 dXKn_isFreed_56 ?_
          obtain ⟨x32, g33, h⟩ := h
          refine kg_XKn_89 hx hb hown hts hN hK hP g33 dXKn_isFreed_59 ?_
          refine lv_aload_n hx hb dXKn_isFreed_62 rfl (lv_at hl 2 rfl) ?_
          obtain ⟨x34, g35, h⟩ := h
          refine kg_XKn_30 hx hb hown hts hN hK hP g35 dXKn_isFreed_63 ?_
          obtain ⟨x36, g37, h⟩ := h
          refine kg_XKn_89 hx hb hown hts hN hK hP g37 dXKn_isFreed_66 ?_
          refine lv_icmp_ne (tgt := 89) hx hb dXKn_isFreed_69 (by decide) (fun c38 => ?_) (fun c38 => ?_)
          · replace h := h.1 c38
            refine lv_iinc (v := v3 + 1) (lv' := [(3, .int (v3 + 1)), (4, .ref y12), (0, .ref v0), (1, .ref v1), (2, .ref v2)]) hx hb dXKn_isFreed_89 hl (k := 4) rfl rfl (by decide) rfl (fun ls hl => ?_)
            refine lv_goto (tgt := 2) hx hb dXKn_isFreed_92 (by decide) ?_
            exact hK2 w_26 v0 v1 v2 (v3 + 1) h H locs ls hP hS (lv_sub hl [2, 3, 4, 0] rfl)
          · replace h := h.2 c38
            refine lv_aload hx hb dXKn_isFreed_72 (lv_at hl 0 rfl) ?_
            obtain ⟨x39, g40, h⟩ := h
            refine kg_XKn_69 hx hb hown hts hN hK hP g40 dXKn_isFreed_74 ?_
            refine lv_aload_n hx hb dXKn_isFreed_77 rfl (lv_at hl 2 rfl) ?_
            obtain ⟨x41, g42, h⟩ := h
            refine kg_XKn_66 hx hb hown hts hN hK hP g42 dXKn_isFreed_78 ?_
            refine va_calli (va_runSN (As := [.long x39, .int x41]) (rest := []) ⟨hx, hb, hml, hown, hts⟩ (cKXW_contains h) (gc_XKn_42 hts hN ⟨Nat.le_of_ble_eq_true rfl, Nat.le_of_ble_eq_true rfl⟩) (k_preS hP hS hA hK hN hE) rfl rfl hl.1 rfl (lv_room (Nat.le_of_ble_eq_true rfl)) dXKn_isFreed_81 ⟨Nat.le_of_ble_eq_true rfl, Nat.le_of_ble_eq_true rfl⟩) hS (fun _ _ q => q) (fun _ q => q) (fun r43 w_43 t H locs ht hvm h hP hz hk hS => ?_)
            rw [fxC, ht] at hP
            refine lv_if_eq (tgt := 89) hx hb dXKn_isFreed_84 (by decide) (fun c44 => ?_) (fun c44 => ?_)
            · replace h := h.1 c44
              refine lv_iinc (v := v3 + 1) (lv' := [(3, .int (v3 + 1)), (4, .ref y12), (0, .ref v0), (1, .ref v1), (2, .ref v2)]) hx hb dXKn_isFreed_89 hl (k := 4) rfl rfl (by decide) rfl (fun ls hl => ?_)
              refine lv_goto (tgt := 2) hx hb dXKn_isFreed_92 (by decide) ?_
              exact hK2 w_43 v0 v1 v2 (v3 + 1) h H locs ls hP hS (lv_sub hl [2, 3, 4, 0] rfl)
            · replace h := h.2 c44
              refine lv_iconst (v := 1) hx hb dXKn_isFreed_87 (by decide) ?_
              exact W.zret hx hb hr rfl (fun t ht hW => ⟨⟨_, _, rfl, h, by rw [fxC, ht]; exact hP⟩, hS.F ht⟩) hS.2.2 dXKn_isFreed_88 hlocks
set_option maxRecDepth 100000 in
set_option maxHeartbeats 4000000 in
theorem sKXKn_isFreed_in {p : Program} {l : Launch} {e : Env} {s : State} {m : MethodId} {args : Array Value} {below : List Frame} {meth : Method} {c : Code} {D : va_G} {ca : Nat → Nat} {A : Nat → Prop} {post : Int32 → fh_T → Prop} (C0 : kCx p s m args meth c D ca A RXKn cXKn_isFreed 5 (some .boolean) "isFreed") : ∀ (w : fh_T) (a0 : Nat) (a1 : Nat) (a2 : Nat), wKXKn_isFreed post w a0 a1 a2 → ∀ (H : Heap) (locs : List Loc) (ls : Array Slot), fh_ok D ca A w H → va_S A s.heap H locs → lv_has ls 5 [(0, .ref a0), (1, .ref a1), (2, .ref a2)] → W p l e ({ frames := 1, cells := 0, slots := 0, locals := 22 } : Room) s m args below meth c H locs 0 0 (MQ below (va_Qi post (fxC (fh_ok D ca A)) A) args s 0 0 A) (F0 m 0 ls []) := by
  obtain ⟨hx, hb, hr, hml, hown, hts, hlocks, hK, hN, hE, hA, hin⟩ := id C0
  intro w a0 a1 a2 h H locs ls hP hS hl
  replace h : (∃ k, wKXKn_isFreed_2 post  k w a0 a1 a2 0) := h
  refine lv_iconst (v := 0) hx hb dXKn_isFreed_0 (by decide) ?_
  refine lv_istore_n (lv' := [(3, .int 0), (0, .ref a0), (1, .ref a1), (2, .ref a2)]) hx hb dXKn_isFreed_1 rfl hl (by decide) rfl (fun ls hl => ?_)
  obtain ⟨k, h⟩ := h
  exact sKXKn_isFreed_2  C0  k w a0 a1 a2 0 h H locs ls hP hS (lv_sub hl [1, 2, 3, 0] rfl)
set_option maxRecDepth 100000 in
set_option maxHeartbeats 4000000 in
theorem cKXKn_isFreed {l : Launch} {D : va_G} {ca : Nat → Nat} {A : Nat → Prop} {post : Int32 → fh_T → Prop} {w : fh_T} {a0 : Nat} {a1 : Nat} {a2 : Nat} (h : wKXKn_isFreed post w a0 a1 a2) : Met l yXKn_isFreed (.code yXKn_isFreed cXKn_isFreed 5 (some .boolean) :: lg_tbl) ({ frames := 1, cells := 0, slots := 0, locals := 22 } : Room) (va_Pc [.ref a0, .ref a1, .ref a2] (kB D ca A w)) (va_Qi post (fxC (fh_ok D ca A)) A) 0 0 A := by
  refine fx_start (by decide +kernel) (Nat.le_of_ble_eq_true rfl) ?_
  intro p e s m below meth c ls hx hb hr hml hown hts hlocks hnm hB hl
  exact sKXKn_isFreed_in ⟨hx, hb, hr, hml, hown, hts, hlocks, hB.2.2.1, hB.2.2.2.1, hB.2.2.2.2, hB.2.1, hnm⟩ w a0 a1 a2 h _ _ ls hB.1 va_S.rf hl
def wKXKn_isRight_53 (post : Int32 → fh_T → Prop) (K2 : fh_T → Nat → Nat → Int32 → Prop) (w : fh_T) (v0 : Nat) (v1 : Nat) (v2 : Int32) (v3 : Nat) (t0 : Int32) : Prop := ((¬ t0 = 0 → (post 0 w)) ∧ (t0 = 0 → (wKXKn_isLockAgainst (fun r26 w_26 => ((r26 = 0 → (K2 w_26 v0 v1 (v2 + 1))) ∧ (¬ r26 = 0 → (∃ fs29, w_26 v0 = some (.inr (2, fs29)) ∧ (wKXKn_isFreed (fun r28 w_28 => ((¬ r28 = 0 → (K2 w_28 v0 v1 (v2 + 1))) ∧ (r28 = 0 → (post 0 w_28)))) w_26 v0 v3 v1))))) w v3 v1)))
def wKXKn_isRight_52 (post : Int32 → fh_T → Prop) (K2 : fh_T → Nat → Nat → Int32 → Prop) (w : fh_T) (v0 : Nat) (v1 : Nat) (v2 : Int32) (v3 : Nat) : Prop := (wKXKn_isRight_53 post K2 w v0 v1 v2 v3 0)
noncomputable def wKXKn_isRight_2 (post : Int32 → fh_T → Prop) (n : Nat) : fh_T → Nat → Nat → Int32 → Prop := Nat.rec (motive := fun _ => fh_T → Nat → Nat → Int32 → Prop) (fun _ _ _ _ => False) (fun _ K2 w v0 v1 v2 => (∃ x1, fh_g w v0 2 0 (.ref x1) ∧ (∃ x3, fh_g w x1 3 1 (.int x3) ∧ ((x3 ≤ v2 → (post 1 w)) ∧ (¬ x3 ≤ v2 → (∃ x6, fh_g w v0 2 0 (.ref x6) ∧ (∃ x8, fh_g w x6 3 0 (.ref x8) ∧ (∃ n10 f11 y12, w x8 = some (.inl (0, n10, .inr (.inr (.inr (.inr f11))))) ∧ vp_in v2 n10 ∧ f11 (Int32.toNatClampNeg v2) = some y12 ∧ (∃ x16, fh_g w v1 7 3 (.long x16) ∧ (wKXW_contains (fun r18 w_18 => ((r18 = 0 → (wKXKn_isRight_52 post K2 w_18 v0 v1 v2 y12)) ∧ (¬ r18 = 0 → (∃ x20, fh_g w_18 y12 7 4 (.long x20) ∧ (∃ x22, fh_g w_18 v1 7 3 (.long x22) ∧ (((lg_cmp (x20 &&& x22) 0) = 0 → (wKXKn_isRight_52 post K2 w_18 v0 v1 v2 y12)) ∧ (¬ (lg_cmp (x20 &&& x22) 0) = 0 → (wKXKn_isRight_53 post K2 w_18 v0 v1 v2 y12 1)))))))) w x16 v2)))))))))) n
def wKXKn_isRight (post : Int32 → fh_T → Prop) (w : fh_T) (a0 : Nat) (a1 : Nat) : Prop := (∃ k, wKXKn_isRight_2 post  k w a0 a1 0)
set_option maxRecDepth 100000 in
set_option maxHeartbeats 4000000 in
theorem sKXKn_isRight_53 {p : Program} {l : Launch} {e : Env} {s : State} {m : MethodId} {args : Array Value} {below : List Frame} {meth : Method} {c : Code} {D : va_G} {ca : Nat → Nat} {A : Nat → Prop} {post : Int32 → fh_T → Prop} (C0 : kCx p s m args meth c D ca A RXKn cXKn_isRight 5 (some .boolean) "isRight") {K2 : fh_T → Nat → Nat → Int32 → Prop} (hK2 : ∀ (w : fh_T) (v0 : Nat) (v1 : Nat) (v2 : Int32), K2 w v0 v1 v2 → ∀ (H : Heap) (locs : List Loc) (ls : Array Slot), fh_ok D ca A w H → va_S A s.heap H locs → lv_has ls 5 [(0, .ref v0), (1, .ref v1), (2, .int v2)] → W p l e ({ frames := 2, cells := 0, slots := 0, locals := 46 } : Room) s m args below meth c H locs 0 0 (MQ below (va_Qi post (fxC (fh_ok D ca A)) A) args s 0 0 A) (F0 m 2 ls [])) : ∀ (w : fh_T) (v0 : Nat) (v1 : Nat) (v2 : Int32) (v3 : Nat) (t0 : Int32), wKXKn_isRight_53 post K2 w v0 v1 v2 v3 t0 → ∀ (H : Heap) (locs : List Loc) (ls : Array Slot), fh_ok D ca A w H → va_S A s.heap H locs → lv_has ls 5 [(0, .ref v0), (1, .ref v1), (2, .int v2), (3, .ref v3)] → W p l e ({ frames := 2, cells := 0, slots := 0, locals := 46 } : Room) s m args below meth c H locs 0 0 (MQ below (va_Qi post (fxC (fh_ok D ca A)) A) args s 0 0 A) (F0 m 53 ls [.int t0]) := by
  obtain ⟨hx, hb, hr, hml, hown, hts, hlocks, hK, hN, hE, hA, hin⟩ := id C0
  intro w v0 v1 v2 v3 t0 h H locs ls hP hS hl
  replace h : ((¬ t0 = 0 → (post 0 w)) ∧ (t0 = 0 → (wKXKn_isLockAgainst (fun r26 w_26 => ((r26 = 0 → (K2 w_26 v0 v1 (v2 + 1))) ∧ (¬ r26 = 0 → (∃ fs29, w_26 v0 = some (.inr (2, fs29)) ∧ (wKXKn_isFreed (fun r28 w_28 => ((¬ r28 = 0 → (K2 w_28 v0 v1 (v2 + 1))) ∧ (r28 = 0 → (post 0 w_28)))) w_26 v0 v3 v1))))) w v3 v1))) := h
  refine lv_istore (lv' := [(4, .int t0), (0, .ref v0), (1, .ref v1), (2, .int v2), (3, .ref v3)]) hx hb dXKn_isRight_53 hl (by decide) rfl (fun ls hl => ?_)
  refine lv_iload hx hb dXKn_isRight_55 (lv_at hl 0 rfl) ?_
  refine lv_if_ne (tgt := 77) hx hb dXKn_isRight_57 (by decide) (fun c25 => ?_) (fun c25 => ?_)
  · replace h := h.1 c25
    refine lv_iconst (v := 0) hx hb dXKn_isRight_77 (by decide) ?_
    exact W.zret hx hb hr rfl (fun t ht hW => ⟨⟨_, _, rfl, h, by rw [fxC, ht]; exact hP⟩, hS.F ht⟩) hS.2.2 dXKn_isRight_78 hlocks
  · replace h := h.2 c25
    refine lv_aload_n hx hb dXKn_isRight_60 rfl (lv_at hl 4 rfl) ?_
    refine lv_aload_n hx hb dXKn_isRight_61 rfl (lv_at hl 2 rfl) ?_
    refine va_calli (va_runS (As := [.ref v3, .ref v1]) (rest := []) ⟨hx, hb, hml, hown, hts⟩ (cKXKn_isLockAgainst h) (gc_XKn_75 hts hN ⟨Nat.le_of_ble_eq_true rfl, Nat.le_of_ble_eq_true rfl⟩) (k_preS hP hS hA hK hN hE) rfl rfl hl.1 rfl (lv_room (Nat.le_of_ble_eq_true rfl)) dXKn_isRight_62 ⟨Nat.le_of_ble_eq_true rfl, Nat.le_of_ble_eq_true rfl⟩) hS (fun _ _ q => q) (fun _ q => q) (fun r26 w_26 t H locs ht hvm h hP hz hk hS => ?_)
    rw [fxC, ht] at hP
    refine lv_if_eq (tgt := 79) hx hb dXKn_isRight_65 (by decide) (fun c27 => ?_) (fun c27 => ?_)
    · replace h := h.1 c27
      refine lv_iinc (v := v2 + 1) (lv' := [(2, .int (v2 + 1)), (4, .int t0), (0, .ref v0), (1, .ref v1), (3, .ref v3)]) hx hb dXKn_isRight_79 hl (k := 3) rfl rfl (by decide) rfl (fun ls hl => ?_)
      refine lv_goto (tgt := 2) hx hb dXKn_isRight_82 (by decide) ?_
      exact hK2 w_26 v0 v1 (v2 + 1) h H locs ls hP hS (lv_sub hl [2, 3, 0] rfl)
    · replace h := h.2 c27
      refine lv_aload_n hx hb dXKn_isRight_68 rfl (lv_at hl 1 rfl) ?_
      refine lv_aload_n hx hb dXKn_isRight_69 rfl (lv_at hl 4 rfl) ?_
      refine lv_aload_n hx hb dXKn_isRight_70 rfl (lv_at hl 2 rfl) ?_
      obtain ⟨fs29, g30, h⟩ := h
      refine va_calli (va_runV (As := [.ref v3, .ref v1]) (rest := []) ⟨hx, hb, hml, hown, hts⟩ (cKXKn_isFreed h) (gc_XKn_79 hts hN ⟨Nat.le_of_ble_eq_true rfl, Nat.le_of_ble_eq_true rfl⟩) (k_preV g30 rfl hP hS hA hK hN hE) rfl rfl hl.1 rfl (lv_room (Nat.le_of_ble_eq_true rfl)) dXKn_isRight_71 ⟨Nat.le_of_ble_eq_true rfl, Nat.le_of_ble_eq_true rfl⟩) hS (fun _ _ q => q) (fun _ q => q) (fun r28 w_28 t H locs ht hvm h hP hz hk hS => ?_)
      rw [fxC, ht] at hP
      refine lv_if_ne (tgt := 79) hx hb dXKn_isRight_74 (by decide) (fun c31 => ?_) (fun c31 => ?_)
      · replace h := h.1 c31
        refine lv_iinc (v := v2 + 1) (lv' := [(2, .int (v2 + 1)), (4, .int t0), (0, .ref v0), (1, .ref v1), (3, .ref v3)]) hx hb dXKn_isRight_79 hl (k := 3) rfl rfl (by decide) rfl (fun ls hl => ?_)
        refine lv_goto (tgt := 2) hx hb dXKn_isRight_82 (by decide) ?_
        exact hK2 w_28 v0 v1 (v2 + 1) h H locs ls hP hS (lv_sub hl [2, 3, 0] rfl)
      · replace h := h.2 c31
        refine lv_iconst (v := 0) hx hb dXKn_isRight_77 (by decide) ?_
        exact W.zret hx hb hr rfl (fun t ht hW => ⟨⟨_, _, rfl, h, by rw [fxC, ht]; exact hP⟩, hS.F ht⟩) hS.2.2 dXKn_isRight_78 hlocks
set_option maxRecDepth 100000 in
set_option maxHeartbeats 4000000 in
theorem sKXKn_isRight_52 {p : Program} {l : Launch} {e : Env} {s : State} {m : MethodId} {args : Array Value} {below : List Frame} {meth : Method} {c : Code} {D : va_G} {ca : Nat → Nat} {A : Nat → Prop} {post : Int32 → fh_T → Prop} (C0 : kCx p s m args meth c D ca A RXKn cXKn_isRight 5 (some .boolean) "isRight") {K2 : fh_T → Nat → Nat → Int32 → Prop} (hK2 : ∀ (w : fh_T) (v0 : Nat) (v1 : Nat) (v2 : Int32), K2 w v0 v1 v2 → ∀ (H : Heap) (locs : List Loc) (ls : Array Slot), fh_ok D ca A w H → va_S A s.heap H locs → lv_has ls 5 [(0, .ref v0), (1, .ref v1), (2, .int v2)] → W p l e ({ frames := 2, cells := 0, slots := 0, locals := 46 } : Room) s m args below meth c H locs 0 0 (MQ below (va_Qi post (fxC (fh_ok D ca A)) A) args s 0 0 A) (F0 m 2 ls [])) : ∀ (w : fh_T) (v0 : Nat) (v1 : Nat) (v2 : Int32) (v3 : Nat), wKXKn_isRight_52 post K2 w v0 v1 v2 v3 → ∀ (H : Heap) (locs : List Loc) (ls : Array Slot), fh_ok D ca A w H → va_S A s.heap H locs → lv_has ls 5 [(0, .ref v0), (1, .ref v1), (2, .int v2), (3, .ref v3)] → W p l e ({ frames := 2, cells := 0, slots := 0, locals := 46 } : Room) s m args below meth c H locs 0 0 (MQ below (va_Qi post (fxC (fh_ok D ca A)) A) args s 0 0 A) (F0 m 52 ls []) := by
  obtain ⟨hx, hb, hr, hml, hown, hts, hlocks, hK, hN, hE, hA, hin⟩ := id C0
  intro w v0 v1 v2 v3 h H locs ls hP hS hl
  replace h : (wKXKn_isRight_53 post K2 w v0 v1 v2 v3 0) := h
  refine lv_iconst (v := 0) hx hb dXKn_isRight_52 (by decide) ?_
  exact sKXKn_isRight_53  C0 hK2 w v0 v1 v2 v3 0 h H locs ls hP hS (lv_sub hl [0, 1, 2, 3] rfl)
set_option maxRecDepth 100000 in
set_option maxHeartbeats 4000000 in
theorem sKXKn_isRight_2 {p : Program} {l : Launch} {e : Env} {s : State} {m : MethodId} {args : Array Value} {below : List Frame} {meth : Method} {c : Code} {D : va_G} {ca : Nat → Nat} {A : Nat → Prop} {post : Int32 → fh_T → Prop} (C0 : kCx p s m args meth c D ca A RXKn cXKn_isRight 5 (some .boolean) "isRight") : ∀ (n : Nat) (w : fh_T) (v0 : Nat) (v1 : Nat) (v2 : Int32), wKXKn_isRight_2 post  n w v0 v1 v2 → ∀ (H : Heap) (locs : List Loc) (ls : Array Slot), fh_ok D ca A w H → va_S A s.heap H locs → lv_has ls 5 [(0, .ref v0), (1, .ref v1), (2, .int v2)] → W p l e ({ frames := 2, cells := 0, slots := 0, locals := 46 } : Room) s m args below meth c H locs 0 0 (MQ below (va_Qi post (fxC (fh_ok D ca A)) A) args s 0 0 A) (F0 m 2 ls []) := by
  obtain ⟨hx, hb, hr, hml, hown, hts, hlocks, hK, hN, hE, hA, hin⟩ := id C0
  intro n
  induction n with
  | zero => exact fun _ _ _ _ h => h.elim
  | succ n hK2 =>
    intro w v0 v1 v2 h H locs ls hP hS hl
    replace h : (∃ x1, fh_g w v0 2 0 (.ref x1) ∧ (∃ x3, fh_g w x1 3 1 (.int x3) ∧ ((x3 ≤ v2 → (post 1 w)) ∧ (¬ x3 ≤ v2 → (∃ x6, fh_g w v0 2 0 (.ref x6) ∧ (∃ x8, fh_g w x6 3 0 (.ref x8) ∧ (∃ n10 f11 y12, w x8 = some (.inl (0, n10, .inr (.inr (.inr (.inr f11))))) ∧ vp_in v2 n10 ∧ f11 (Int32.toNatClampNeg v2) = some y12 ∧ (∃ x16, fh_g w v1 7 3 (.long x16) ∧ (wKXW_contains (fun r18 w_18 => ((r18 = 0 → (wKXKn_isRight_52 post (wKXKn_isRight_2 post  n) w_18 v0 v1 v2 y12)) ∧ (¬ r18 = 0 → (∃ x20, fh_g w_18 y12 7 4 (.long x20) ∧ (∃ x22, fh_g w_18 v1 7 3 (.long x22) ∧ (((lg_cmp (x20 &&& x22) 0) = 0 → (wKXKn_isRight_52 post (wKXKn_isRight_2 post  n) w_18 v0 v1 v2 y12)) ∧ (¬ (lg_cmp (x20 &&& x22) 0) = 0 → (wKXKn_isRight_53 post (wKXKn_isRight_2 post  n) w_18 v0 v1 v2 y12 1)))))))) w x16 v2))))))))) := h
    refine lv_iload_n hx hb dXKn_isRight_2 rfl (lv_at hl 2 rfl) ?_
    refine lv_aload_n hx hb dXKn_isRight_3 rfl (lv_at hl 0 rfl) ?_
    obtain ⟨x1, g2, h⟩ := h
    refine kg_XKn_12 hx hb hown hts hN hK hP g2 dXKn_isRight_4 ?_
    obtain ⟨x3, g4, h⟩ := h
    refine kg_XKn_18 hx hb hown hts hN hK hP g4 dXKn_isRight_7 ?_
    refine lv_icmp_ge (tgt := 85) hx hb dXKn_isRight_10 (by decide) (fun c5 => ?_) (fun c5 => ?_)
    · replace h := h.1 c5
      refine lv_iconst (v := 1) hx hb dXKn_isRight_85 (by decide) ?_
      exact W.zret hx hb hr rfl (fun t ht hW => ⟨⟨_, _, rfl, h, by rw [fxC, ht]; exact hP⟩, hS.F ht⟩) hS.2.2 dXKn_isRight_86 hlocks
    · replace h := h.2 c5
      refine lv_aload_n hx hb dXKn_isRight_13 rfl (lv_at hl 0 rfl) ?_
      obtain ⟨x6, g7, h⟩ := h
      refine kg_XKn_12 hx hb hown hts hN hK hP g7 dXKn_isRight_14 ?_
      obtain ⟨x8, g9, h⟩ := h
      refine kg_XKn_26 hx hb hown hts hN hK hP g9 dXKn_isRight_17 ?_
      refine lv_iload_n hx hb dXKn_isRight_20 rfl (lv_at hl 2 rfl) ?_
      obtain ⟨n10, f11, y12, g13, g14, g15, h⟩ := h
      refine kaa 0 rfl rfl hx hb hK hP g13 g14 g15 dXKn_isRight_21 ?_
      refine lv_astore_n (lv' := [(3, .ref y12), (0, .ref v0), (1, .ref v1), (2, .int v2)]) hx hb dXKn_isRight_22 rfl hl (by decide) rfl (fun ls hl => ?_)
      refine lv_aload_n hx hb dXKn_isRight_23 rfl (lv_at hl 2 rfl) ?_
      obtain ⟨x16, g17, h⟩ := h
      refine kg_XKn_46 hx hb hown hts hN hK hP g17 dXKn_isRight_24 ?_
      refine lv_iload_n hx hb dXKn_isRight_27 rfl (lv_at hl 3 rfl) ?_
      refine va_calli (va_runSN (As := [.long x16, .int v2]) (rest := []) ⟨hx, hb, hml, hown, hts⟩ (cKXW_contains h) (gc_XKn_42 hts hN ⟨Nat.le_of_ble_eq_true rfl, Nat.le_of_ble_eq_true rfl⟩) (k_preS hP hS hA hK hN hE) rfl rfl hl.1 rfl (lv_room (Nat.le_of_ble_eq_true rfl)) dXKn_isRight_28 ⟨Nat.le_of_ble_eq_true rfl, Nat.le_of_ble_eq_true rfl⟩) hS (fun _ _ q => q) (fun _ q => q) (fun r18 w_18 t H locs ht hvm h hP hz hk hS => ?_)
      rw [fxC, ht] at hP
      refine lv_if_eq (tgt := 52) hx hb dXKn_isRight_31 (by decide) (fun c19 => ?_) (fun c19 => ?_)
      · replace h := h.1 c19
        exact sKXKn_isRight_52  C0 hK2 w_18 v0 v1 v2 y12 h H locs ls hP hS (lv_sub hl [1, 2, 3, 0] rfl)
      · replace h := h.2 c19
        refine lv_aload_n hx hb dXKn_isRight_34 rfl (lv_at hl 0 rfl) ?_
        obtain ⟨x20, g21, h⟩ := h
        refine kg_XKn_69 hx hb hown hts hN hK hP g21 dXKn_isRight_35 ?_
        refine lv_aload_n hx hb dXKn_isRight_38 rfl (lv_at hl 2 rfl) ?_
        obtain ⟨x22, g23, h⟩ := h
        refine kg_XKn_46 hx hb hown hts hN hK hP g23 dXKn_isRight_39 ?_
        refine lv_land hx hb dXKn_isRight_42 ?_
        refine lv_lconst (v := 0) hx hb dXKn_isRight_43 (by decide) ?_
        refine W.lcmp hx hb dXKn_isRight_44 ?_
        refine lv_if_eq (tgt := 52) hx hb dXKn_isRight_45 (by decide) (fun c24 => ?_) (fun c24 => ?_)
        · replace h := h.1 c24
          exact sKXKn_isRight_52  C0 hK2 w_18 v0 v1 v2 y12 h H locs ls hP hS (lv_sub hl [1, 2, 3, 0] rfl)
        · replace h := h.2 c24
          refine lv_iconst (v := 1) hx hb dXKn_isRight_48 (by decide) ?_
          refine lv_goto (tgt := 53) hx hb dXKn_isRight_49 (by decide) ?_
          exact sKXKn_isRight_53  C0 hK2 w_18 v0 v1 v2 y12 1 h H locs ls hP hS (lv_sub hl [1, 2, 3, 0] rfl)
set_option maxRecDepth 100000 in
set_option maxHeartbeats 4000000 in
theorem sKXKn_isRight_in {p : Program} {l : Launch} {e : Env} {s : State} {m : MethodId} {args : Array Value} {below : List Frame} {meth : Method} {c : Code} {D : va_G} {ca : Nat → Nat} {A : Nat → Prop} {post : Int32 → fh_T → Prop} (C0 : kCx p s m args meth c D ca A RXKn cXKn_isRight 5 (some .boolean) "isRight") : ∀ (w : fh_T) (a0 : Nat) (a1 : Nat), wKXKn_isRight post w a0 a1 → ∀ (H : Heap) (locs : List Loc) (ls : Array Slot), fh_ok D ca A w H → va_S A s.heap H locs → lv_has ls 5 [(0, .ref a0), (1, .ref a1)] → W p l e ({ frames := 2, cells := 0, slots := 0, locals := 46 } : Room) s m args below meth c H locs 0 0 (MQ below (va_Qi post (fxC (fh_ok D ca A)) A) args s 0 0 A) (F0 m 0 ls []) := by
  obtain ⟨hx, hb, hr, hml, hown, hts, hlocks, hK, hN, hE, hA, hin⟩ := id C0
  intro w a0 a1 h H locs ls hP hS hl
  replace h : (∃ k, wKXKn_isRight_2 post  k w a0 a1 0) := h
  refine lv_iconst (v := 0) hx hb dXKn_isRight_0 (by decide) ?_
  refine lv_istore_n (lv' := [(2, .int 0), (0, .ref a0), (1, .ref a1)]) hx hb dXKn_isRight_1 rfl hl (by decide) rfl (fun ls hl => ?_)
  obtain ⟨k, h⟩ := h
  exact sKXKn_isRight_2  C0  k w a0 a1 0 h H locs ls hP hS (lv_sub hl [1, 2, 0] rfl)
set_option maxRecDepth 100000 in
set_option maxHeartbeats 4000000 in
theorem cKXKn_isRight {l : Launch} {D : va_G} {ca : Nat → Nat} {A : Nat → Prop} {post : Int32 → fh_T → Prop} {w : fh_T} {a0 : Nat} {a1 : Nat} (h : wKXKn_isRight post w a0 a1) : Met l yXKn_isRight (.code yXKn_isRight cXKn_isRight 5 (some .boolean) :: lg_tbl) ({ frames := 2, cells := 0, slots := 0, locals := 46 } : Room) (va_Pc [.ref a0, .ref a1] (kB D ca A w)) (va_Qi post (fxC (fh_ok D ca A)) A) 0 0 A := by
  refine fx_start (by decide +kernel) (Nat.le_of_ble_eq_true rfl) ?_
  intro p e s m below meth c ls hx hb hr hml hown hts hlocks hnm hB hl
  exact sKXKn_isRight_in ⟨hx, hb, hr, hml, hown, hts, hlocks, hB.2.2.1, hB.2.2.2.1, hB.2.2.2.2, hB.2.1, hnm⟩ w a0 a1 h _ _ ls hB.1 va_S.rf hl
noncomputable def wKXRo_insert_27 (post : fh_T → Prop) (n : Nat) : fh_T → Nat → Int32 → Nat → Int32 → Prop := Nat.rec (motive := fun _ => fh_T → Nat → Int32 → Nat → Int32 → Prop) (fun _ _ _ _ _ => False) (fun _ K27 w v0 v1 v2 v3 => ((v3 ≤ v1 → (∃ x11, fh_g w v0 3 0 (.ref x11) ∧ (∃ n13 f14 fs18, w x11 = some (.inl (0, n13, .inr (.inr (.inr (.inr f14))))) ∧ w v2 = some (.inr (7, fs18)) ∧ vp_in v1 n13 ∧ ∀ w17, w17 = fh_up w x11 (.inl (0, n13, .inr (.inr (.inr (.inr (va_up f14 (Int32.toNatClampNeg v1) (some v2))))))) → (∃ x20, fh_g w17 v0 3 1 (.int x20) ∧ (∃ fs22, w17 v0 = some (.inr (3, fs22)) ∧ 1 < fs22.length ∧ ∀ w23, w23 = fh_up w17 v0 (.inr (3, fs22.set 1 (.int (x20 + 1)))) → (post w23)))))) ∧ (¬ v3 ≤ v1 → (∃ x26, fh_g w v0 3 0 (.ref x26) ∧ (∃ x28, fh_g w v0 3 0 (.ref x28) ∧ (∃ n30 f31 y32, w x28 = some (.inl (0, n30, .inr (.inr (.inr (.inr f31))))) ∧ vp_in (v3 - 1) n30 ∧ f31 (Int32.toNatClampNeg (v3 - 1)) = some y32 ∧ (∃ n36 f37 fs41, w x26 = some (.inl (0, n36, .inr (.inr (.inr (.inr f37))))) ∧ w y32 = some (.inr (7, fs41)) ∧ vp_in v3 n36 ∧ ∀ w40, w40 = fh_up w x26 (.inl (0, n36, .inr (.inr (.inr (.inr (va_up f37 (Int32.toNatClampNeg v3) (some y32))))))) → (K27 w40 v0 v1 v2 (v3 + (-1)))))))))) n
def wKXRo_insert (post : fh_T → Prop) (w : fh_T) (a0 : Nat) (a1 : Int32) (a2 : Nat) : Prop := ((a1 < 0 → (post w)) ∧ (¬ a1 < 0 → (∃ x2, fh_g w a0 3 1 (.int x2) ∧ ((x2 < a1 → (post w)) ∧ (¬ x2 < a1 → (∃ x5, fh_g w a0 3 1 (.int x5) ∧ ((x5 < 40 → (∃ x8, fh_g w a0 3 1 (.int x8) ∧ (∃ k, wKXRo_insert_27 post  k w a0 a1 a2 x8))) ∧ (¬ x5 < 40 → (post w)))))))))
set_option maxRecDepth 100000 in
set_option maxHeartbeats 4000000 in
theorem sKXRo_insert_27 {p : Program} {l : Launch} {e : Env} {s : State} {m : MethodId} {args : Array Value} {below : List Frame} {meth : Method} {c : Code} {D : va_G} {ca : Nat → Nat} {A : Nat → Prop} {post : fh_T → Prop} (C0 : kCx p s m args meth c D ca A RXRo cXRo_insert 4 none "insert") : ∀ (n : Nat) (w : fh_T) (v0 : Nat) (v1 : Int32) (v2 : Nat) (v3 : Int32), wKXRo_insert_27 post  n w v0 v1 v2 v3 → ∀ (H : Heap) (locs : List Loc) (ls : Array Slot), fh_ok D ca A w H → va_S A s.heap H locs → lv_has ls 4 [(0, .ref v0), (1, .int v1), (2, .ref v2), (3, .int v3)] → W p l e ({ frames := 0, cells := 0, slots := 0, locals := 0 } : Room) s m args below meth c H locs 0 0 (MQ below (va_Qv post (fxC (fh_ok D ca A)) A) args s 0 0 A) (F0 m 27 ls []) := by
  obtain ⟨hx, hb, hr, hml, hown, hts, hlocks, hK, hN, hE, hA, hin⟩ := id C0
  intro n
  induction n with
  | zero => exact fun _ _ _ _ _ h => h.elim
  | succ n hK27 =>
    intro w v0 v1 v2 v3 h H locs ls hP hS hl
    replace h : ((v3 ≤ v1 → (∃ x11, fh_g w v0 3 0 (.ref x11) ∧ (∃ n13 f14 fs18, w x11 = some (.inl (0, n13, .inr (.inr (.inr (.inr f14))))) ∧ w v2 = some (.inr (7, fs18)) ∧ vp_in v1 n13 ∧ ∀ w17, w17 = fh_up w x11 (.inl (0, n13, .inr (.inr (.inr (.inr (va_up f14 (Int32.toNatClampNeg v1) (some v2))))))) → (∃ x20, fh_g w17 v0 3 1 (.int x20) ∧ (∃ fs22, w17 v0 = some (.inr (3, fs22)) ∧ 1 < fs22.length ∧ ∀ w23, w23 = fh_up w17 v0 (.inr (3, fs22.set 1 (.int (x20 + 1)))) → (post w23)))))) ∧ (¬ v3 ≤ v1 → (∃ x26, fh_g w v0 3 0 (.ref x26) ∧ (∃ x28, fh_g w v0 3 0 (.ref x28) ∧ (∃ n30 f31 y32, w x28 = some (.inl (0, n30, .inr (.inr (.inr (.inr f31))))) ∧ vp_in (v3 - 1) n30 ∧ f31 (Int32.toNatClampNeg (v3 - 1)) = some y32 ∧ (∃ n36 f37 fs41, w x26 = some (.inl (0, n36, .inr (.inr (.inr (.inr f37))))) ∧ w y32 = some (.inr (7, fs41)) ∧ vp_in v3 n36 ∧ ∀ w40, w40 = fh_up w x26 (.inl (0, n36, .inr (.inr (.inr (.inr (va_up f37 (Int32.toNatClampNeg v3) (some y32))))))) → ((wKXRo_insert_27 post  n) w40 v0 v1 v2 (v3 + (-1))))))))) := h
    refine lv_iload_n hx hb dXRo_insert_27 rfl (lv_at hl 3 rfl) ?_
    refine lv_iload_n hx hb dXRo_insert_28 rfl (lv_at hl 1 rfl) ?_
    refine lv_icmp_le (tgt := 52) hx hb dXRo_insert_29 (by decide) (fun c10 => ?_) (fun c10 => ?_)
    · replace h := h.1 c10
      refine lv_aload_n hx hb dXRo_insert_52 rfl (lv_at hl 0 rfl) ?_
      obtain ⟨x11, g12, h⟩ := h
      refine kg_XRo_11 hx hb hown hts hN hK hP g12 dXRo_insert_53 ?_
      refine lv_iload_n hx hb dXRo_insert_56 rfl (lv_at hl 1 rfl) ?_
      refine lv_aload_n hx hb dXRo_insert_57 rfl (lv_at hl 2 rfl) ?_
      obtain ⟨n13, f14, fs18, g15, g19, g16, h⟩ := h
      obtain ⟨w17, ew17⟩ : ∃ y, y = fh_up w x11 (.inl (0, n13, .inr (.inr (.inr (.inr (va_up f14 (Int32.toNatClampNeg v1) (some v2))))))) := ⟨_, rfl⟩
      replace h := h w17 ew17
      refine kas 0 (ci := 7) rfl rfl rfl hx hb hK hP hS g15 g19 g16 dXRo_insert_58 (fun H locs hP hS => ?_)
      rw [← ew17] at hP
      refine lv_aload_n hx hb dXRo_insert_59 rfl (lv_at hl 0 rfl) ?_
      refine lv_dup hx hb dXRo_insert_60 rfl ?_
      obtain ⟨x20, g21, h⟩ := h
      refine kg_XRo_17 hx hb hown hts hN hK hP g21 dXRo_insert_61 ?_
      refine lv_iconst (v := 1) hx hb dXRo_insert_64 (by decide) ?_
      refine lv_iadd hx hb dXRo_insert_65 ?_
      obtain ⟨fs22, g24, g25, h⟩ := h
      obtain ⟨w23, ew23⟩ : ∃ y, y = fh_up w17 v0 (.inr (3, fs22.set 1 (.int (x20 + 1)))) := ⟨_, rfl⟩
      replace h := h w23 ew23
      refine kp_XRo_17 hx hb hown hts hN hK hP hS g24 g25 dXRo_insert_66 (fun H locs hP hS => ?_)
      rw [← ew23] at hP
      exact W.vret hx hb hr (fun t ht hW => ⟨⟨_, rfl, h, by rw [fxC, ht]; exact hP⟩, hS.F ht⟩) hS.2.2 dXRo_insert_69 hlocks
    · replace h := h.2 c10
      refine lv_aload_n hx hb dXRo_insert_32 rfl (lv_at hl 0 rfl) ?_
      obtain ⟨x26, g27, h⟩ := h
      refine kg_XRo_11 hx hb hown hts hN hK hP g27 dXRo_insert_33 ?_
      refine lv_iload_n hx hb dXRo_insert_36 rfl (lv_at hl 3 rfl) ?_
      refine lv_aload_n hx hb dXRo_insert_37 rfl (lv_at hl 0 rfl) ?_
      obtain ⟨x28, g29, h⟩ := h
      refine kg_XRo_11 hx hb hown hts hN hK hP g29 dXRo_insert_38 ?_
      refine lv_iload_n hx hb dXRo_insert_41 rfl (lv_at hl 3 rfl) ?_
      refine lv_iconst (v := 1) hx hb dXRo_insert_42 (by decide) ?_
      refine lv_isub hx hb dXRo_insert_43 ?_
      obtain ⟨n30, f31, y32, g33, g34, g35, h⟩ := h
      refine kaa 0 rfl rfl hx hb hK hP g33 g34 g35 dXRo_insert_44 ?_
      obtain ⟨n36, f37, fs41, g38, g42, g39, h⟩ := h
      obtain ⟨w40, ew40⟩ : ∃ y, y = fh_up w x26 (.inl (0, n36, .inr (.inr (.inr (.inr (va_up f37 (Int32.toNatClampNeg v3) (some y32))))))) := ⟨_, rfl⟩
      replace h := h w40 ew40
      refine kas 0 (ci := 7) rfl rfl rfl hx hb hK hP hS g38 g42 g39 dXRo_insert_45 (fun H locs hP hS => ?_)
      rw [← ew40] at hP
      refine lv_iinc (v := v3 + (-1)) (lv' := [(3, .int (v3 + (-1))), (0, .ref v0), (1, .int v1), (2, .ref v2)]) hx hb dXRo_insert_46 hl (k := 3) rfl rfl (by decide) rfl (fun ls hl => ?_)
      refine lv_goto (tgt := 27) hx hb dXRo_insert_49 (by decide) ?_
      exact hK27 w40 v0 v1 v2 (v3 + (-1)) h H locs ls hP hS (lv_sub hl [1, 2, 3, 0] rfl)
set_option maxRecDepth 100000 in
set_option maxHeartbeats 4000000 in
theorem sKXRo_insert_in {p : Program} {l : Launch} {e : Env} {s : State} {m : MethodId} {args : Array Value} {below : List Frame} {meth : Method} {c : Code} {D : va_G} {ca : Nat → Nat} {A : Nat → Prop} {post : fh_T → Prop} (C0 : kCx p s m args meth c D ca A RXRo cXRo_insert 4 none "insert") : ∀ (w : fh_T) (a0 : Nat) (a1 : Int32) (a2 : Nat), wKXRo_insert post w a0 a1 a2 → ∀ (H : Heap) (locs : List Loc) (ls : Array Slot), fh_ok D ca A w H → va_S A s.heap H locs → lv_has ls 4 [(0, .ref a0), (1, .int a1), (2, .ref a2)] → W p l e ({ frames := 0, cells := 0, slots := 0, locals := 0 } : Room) s m args below meth c H locs 0 0 (MQ below (va_Qv post (fxC (fh_ok D ca A)) A) args s 0 0 A) (F0 m 0 ls []) := by
  obtain ⟨hx, hb, hr, hml, hown, hts, hlocks, hK, hN, hE, hA, hin⟩ := id C0
  intro w a0 a1 a2 h H locs ls hP hS hl
  replace h : ((a1 < 0 → (post w)) ∧ (¬ a1 < 0 → (∃ x2, fh_g w a0 3 1 (.int x2) ∧ ((x2 < a1 → (post w)) ∧ (¬ x2 < a1 → (∃ x5, fh_g w a0 3 1 (.int x5) ∧ ((x5 < 40 → (∃ x8, fh_g w a0 3 1 (.int x8) ∧ (∃ k, wKXRo_insert_27 post  k w a0 a1 a2 x8))) ∧ (¬ x5 < 40 → (post w))))))))) := h
  refine lv_iload_n hx hb dXRo_insert_0 rfl (lv_at hl 1 rfl) ?_
  refine lv_if_lt (tgt := 21) hx hb dXRo_insert_1 (by decide) (fun c1 => ?_) (fun c1 => ?_)
  · replace h := h.1 c1
    exact W.vret hx hb hr (fun t ht hW => ⟨⟨_, rfl, h, by rw [fxC, ht]; exact hP⟩, hS.F ht⟩) hS.2.2 dXRo_insert_21 hlocks
  · replace h := h.2 c1
    refine lv_iload_n hx hb dXRo_insert_4 rfl (lv_at hl 1 rfl) ?_
    refine lv_aload_n hx hb dXRo_insert_5 rfl (lv_at hl 0 rfl) ?_
    obtain ⟨x2, g3, h⟩ := h
    refine kg_XRo_17 hx hb hown hts hN hK hP g3 dXRo_insert_6 ?_
    refine lv_icmp_gt (tgt := 21) hx hb dXRo_insert_9 (by decide) (fun c4 => ?_) (fun c4 => ?_)
    · replace h := h.1 c4
      exact W.vret hx hb hr (fun t ht hW => ⟨⟨_, rfl, h, by rw [fxC, ht]; exact hP⟩, hS.F ht⟩) hS.2.2 dXRo_insert_21 hlocks
    · replace h := h.2 c4
      refine lv_aload_n hx hb dXRo_insert_12 rfl (lv_at hl 0 rfl) ?_
      obtain ⟨x5, g6, h⟩ := h
      refine kg_XRo_17 hx hb hown hts hN hK hP g6 dXRo_insert_13 ?_
      refine lv_bipush (v := 40) hx hb dXRo_insert_16 (by decide) ?_
      refine lv_icmp_lt (tgt := 22) hx hb dXRo_insert_18 (by decide) (fun c7 => ?_) (fun c7 => ?_)
      · replace h := h.1 c7
        refine lv_aload_n hx hb dXRo_insert_22 rfl (lv_at hl 0 rfl) ?_
        obtain ⟨x8, g9, h⟩ := h
        refine kg_XRo_17 hx hb hown hts hN hK hP g9 dXRo_insert_23 ?_
        refine lv_istore_n (lv' := [(3, .int x8), (0, .ref a0), (1, .int a1), (2, .ref a2)]) hx hb dXRo_insert_26 rfl hl (by decide) rfl (fun ls hl => ?_)
        obtain ⟨k, h⟩ := h
        exact sKXRo_insert_27  C0  k w a0 a1 a2 x8 h H locs ls hP hS (lv_sub hl [1, 2, 3, 0] rfl)
      · replace h := h.2 c7
        exact W.vret hx hb hr (fun t ht hW => ⟨⟨_, rfl, h, by rw [fxC, ht]; exact hP⟩, hS.F ht⟩) hS.2.2 dXRo_insert_21 hlocks
set_option maxRecDepth 100000 in
set_option maxHeartbeats 4000000 in
theorem cKXRo_insert {l : Launch} {D : va_G} {ca : Nat → Nat} {A : Nat → Prop} {post : fh_T → Prop} {w : fh_T} {a0 : Nat} {a1 : Int32} {a2 : Nat} (h : wKXRo_insert post w a0 a1 a2) : Met l yXRo_insert (.code yXRo_insert cXRo_insert 4 none :: lg_tbl) ({ frames := 0, cells := 0, slots := 0, locals := 0 } : Room) (va_Pc [.ref a0, .int a1, .ref a2] (kB D ca A w)) (va_Qv post (fxC (fh_ok D ca A)) A) 0 0 A := by
  refine fx_start (by decide +kernel) (Nat.le_of_ble_eq_true rfl) ?_
  intro p e s m below meth c ls hx hb hr hml hown hts hlocks hnm hB hl
  exact sKXRo_insert_in ⟨hx, hb, hr, hml, hown, hts, hlocks, hB.2.2.1, hB.2.2.2.1, hB.2.2.2.2, hB.2.1, hnm⟩ w a0 a1 a2 h _ _ ls hB.1 va_S.rf hl
