def wMlinkAt (post : Int64 → (Nat → Nat → Int32) → (Nat → Nat → Int64) → Int32 → Int64 → Int32 → Prop) (I : Nat → Nat → Int32) (J : Nat → Nat → Int64) (cn : Int32) (cm : Int64) (so : Int32) (a1 : Int32) (a2 : Int32) (a3 : Int32) : Prop := (wMplaceOf (fun r1 I_1 J_1 cn_1 cm_1 so_1 => ((r1 < 0 → (post 0 I_1 J_1 cn_1 cm_1 so_1)) ∧ (¬ r1 < 0 → ((a3 < 0 → (post 0 I_1 J_1 cn_1 cm_1 so_1)) ∧ (¬ a3 < 0 → (vp_in r1 40 ∧ ((a3 < (I_1 4 (Int32.toNatClampNeg r1)) → (vp_in ((4 * r1) + a3) 160 ∧ (post (J_1 1 (Int32.toNatClampNeg ((4 * r1) + a3))) I_1 J_1 cn_1 cm_1 so_1))) ∧ (¬ a3 < (I_1 4 (Int32.toNatClampNeg r1)) → (post 0 I_1 J_1 cn_1 cm_1 so_1))))))))) I J cn cm so a1 a2)
set_option maxRecDepth 100000 in
set_option maxHeartbeats 4000000 in
theorem sMlinkAt_in {p : Program} {l : Launch} {e : Env} {s : State} {m : MethodId} {args : Array Value} {below : List Frame} {meth : Method} {c : Code} {D : va_G} {A : Nat → Prop} {h0 : Nat} {ad : Nat → Nat} {cI cL : ClassId} {post : Int64 → (Nat → Nat → Int32) → (Nat → Nat → Int64) → Int32 → Int64 → Int32 → Prop} (C0 : mCx p s m args meth c D A h0 ad cI cL cXM_linkAt 5 (some .long)) : ∀ (I : Nat → Nat → Int32) (J : Nat → Nat → Int64) (cn : Int32) (cm : Int64) (so : Int32) (a1 : Int32) (a2 : Int32) (a3 : Int32), wMlinkAt post I J cn cm so a1 a2 a3 → ∀ (H : Heap) (locs : List Loc) (ls : Array Slot), mW D h0 ad cI cL (I, J, cn, cm, so) H → va_S A s.heap H locs → lv_has ls 5 [(0, .ref h0), (1, .int a1), (2, .int a2), (3, .int a3)] → W p l e ({ frames := 3, cells := 0, slots := 0, locals := 70 } : Room) s m args below meth c H locs 0 0 (MQ below (va_Ql (fun (r : Int64) (u : mS) => post r u.1 u.2.1 u.2.2.1 u.2.2.2.1 u.2.2.2.2) (fxC (mW D h0 ad cI cL)) A) args s 0 0 A) (F0 m 0 ls []) := by
  obtain ⟨hx, hb, hr, hml, hown, hts, hlocks, hK, hN, hD⟩ := id C0
  intro I J cn cm so a1 a2 a3 h H locs ls hP hS hl
  replace h : (wMplaceOf (fun r1 I_1 J_1 cn_1 cm_1 so_1 => ((r1 < 0 → (post 0 I_1 J_1 cn_1 cm_1 so_1)) ∧ (¬ r1 < 0 → ((a3 < 0 → (post 0 I_1 J_1 cn_1 cm_1 so_1)) ∧ (¬ a3 < 0 → (vp_in r1 40 ∧ ((a3 < (I_1 4 (Int32.toNatClampNeg r1)) → (vp_in ((4 * r1) + a3) 160 ∧ (post (J_1 1 (Int32.toNatClampNeg ((4 * r1) + a3))) I_1 J_1 cn_1 cm_1 so_1))) ∧ (¬ a3 < (I_1 4 (Int32.toNatClampNeg r1)) → (post 0 I_1 J_1 cn_1 cm_1 so_1))))))))) I J cn cm so a1 a2) := h
  refine lv_aload_n hx hb dXM_linkAt_0 rfl (lv_at hl 0 rfl) ?_
  refine lv_iload_n hx hb dXM_linkAt_1 rfl (lv_at hl 1 rfl) ?_
  refine lv_iload_n hx hb dXM_linkAt_2 rfl (lv_at hl 2 rfl) ?_
  refine va_calli (va_runV (As := [.int a1, .int a2]) (rest := []) ⟨hx, hb, hml, hown, hts⟩ (cMplaceOf hD h) (fx_cwV 2 hts gw_M_176 hdXM_placeOf ⟨Nat.le_of_ble_eq_true rfl, Nat.le_of_ble_eq_true rfl⟩) (fx_preV (m_recv hK hP) hP hK hN) rfl rfl hl.1 rfl (lv_room (Nat.le_of_ble_eq_true rfl)) dXM_linkAt_3 ⟨Nat.le_of_ble_eq_true rfl, Nat.le_of_ble_eq_true rfl⟩) hS (fun _ _ q => q) (fun _ q => q) (fun r1 u t H locs ht hvm h hP hz hk hS => ?_)
  rw [fxC, ht] at hP
  obtain ⟨I_1, J_1, cn_1, cm_1, so_1⟩ := u
  dsimp only at h
  refine lv_istore (lv' := [(4, .int r1), (0, .ref h0), (1, .int a1), (2, .int a2), (3, .int a3)]) hx hb dXM_linkAt_6 hl (by decide) rfl (fun ls hl => ?_)
  refine lv_iload hx hb dXM_linkAt_8 (lv_at hl 0 rfl) ?_
  refine lv_if_lt (tgt := 28) hx hb dXM_linkAt_10 (by decide) (fun c2 => ?_) (fun c2 => ?_)
  · replace h := h.1 c2
    refine lv_lconst (v := 0) hx hb dXM_linkAt_28 (by decide) ?_
    refine lv_goto (tgt := 43) hx hb dXM_linkAt_29 (by decide) ?_
    exact W.lret hx hb hr (fun t ht hW => ⟨⟨_, (I_1, J_1, cn_1, cm_1, so_1), rfl, h, by rw [fxC, ht]; exact hP⟩, hS.F ht⟩) hS.2.2 dXM_linkAt_43 hlocks
  · replace h := h.2 c2
    refine lv_iload_n hx hb dXM_linkAt_13 rfl (lv_at hl 4 rfl) ?_
    refine lv_if_lt (tgt := 28) hx hb dXM_linkAt_14 (by decide) (fun c3 => ?_) (fun c3 => ?_)
    · replace h := h.1 c3
      refine lv_lconst (v := 0) hx hb dXM_linkAt_28 (by decide) ?_
      refine lv_goto (tgt := 43) hx hb dXM_linkAt_29 (by decide) ?_
      exact W.lret hx hb hr (fun t ht hW => ⟨⟨_, (I_1, J_1, cn_1, cm_1, so_1), rfl, h, by rw [fxC, ht]; exact hP⟩, hS.F ht⟩) hS.2.2 dXM_linkAt_43 hlocks
    · replace h := h.2 c3
      refine lv_iload_n hx hb dXM_linkAt_17 rfl (lv_at hl 4 rfl) ?_
      refine lv_aload_n hx hb dXM_linkAt_18 rfl (lv_at hl 1 rfl) ?_
      refine mg_links hx hb hown hts hK hP dXM_linkAt_19 ?_
      refine lv_iload hx hb dXM_linkAt_22 (lv_at hl 0 rfl) ?_
      obtain ⟨h4, h⟩ := h
      refine ma_5 hx hb hK hP h4 dXM_linkAt_24 ?_
      refine lv_icmp_lt (tgt := 32) hx hb dXM_linkAt_25 (by decide) (fun c5 => ?_) (fun c5 => ?_)
      · replace h := h.1 c5
        refine lv_aload_n hx hb dXM_linkAt_32 rfl (lv_at hl 1 rfl) ?_
        refine mg_link hx hb hown hts hK hP dXM_linkAt_33 ?_
        refine lv_iconst (v := 4) hx hb dXM_linkAt_36 (by decide) ?_
        refine lv_iload hx hb dXM_linkAt_37 (lv_at hl 0 rfl) ?_
        refine lv_imul hx hb dXM_linkAt_39 ?_
        refine lv_iload_n hx hb dXM_linkAt_40 rfl (lv_at hl 4 rfl) ?_
        refine lv_iadd hx hb dXM_linkAt_41 ?_
        obtain ⟨h6, h⟩ := h
        refine ma_6 hx hb hK hP h6 dXM_linkAt_42 ?_
        exact W.lret hx hb hr (fun t ht hW => ⟨⟨_, (I_1, J_1, cn_1, cm_1, so_1), rfl, h, by rw [fxC, ht]; exact hP⟩, hS.F ht⟩) hS.2.2 dXM_linkAt_43 hlocks
      · replace h := h.2 c5
        refine lv_lconst (v := 0) hx hb dXM_linkAt_28 (by decide) ?_
        refine lv_goto (tgt := 43) hx hb dXM_linkAt_29 (by decide) ?_
        exact W.lret hx hb hr (fun t ht hW => ⟨⟨_, (I_1, J_1, cn_1, cm_1, so_1), rfl, h, by rw [fxC, ht]; exact hP⟩, hS.F ht⟩) hS.2.2 dXM_linkAt_43 hlocks
set_option maxRecDepth 100000 in
set_option maxHeartbeats 4000000 in
theorem cMlinkAt {l : Launch} {D : va_G} {A : Nat → Prop} {h0 : Nat} {ad : Nat → Nat} {cI cL : ClassId} (hD : mDs A h0 ad cI cL) {post : Int64 → (Nat → Nat → Int32) → (Nat → Nat → Int64) → Int32 → Int64 → Int32 → Prop} {I : Nat → Nat → Int32} {J : Nat → Nat → Int64} {cn : Int32} {cm : Int64} {so : Int32} {a1 : Int32} {a2 : Int32} {a3 : Int32} (h : wMlinkAt post I J cn cm so a1 a2 a3) : Met l yXM_linkAt (.code yXM_linkAt cXM_linkAt 5 (some .long) :: lg_tbl) ({ frames := 3, cells := 0, slots := 0, locals := 70 } : Room) (va_Pc [.ref h0, .int a1, .int a2, .int a3] (fxB (mW D h0 ad cI cL (I, J, cn, cm, so)) D vwCl (mTy cI cL))) (va_Ql (fun (r : Int64) (u : mS) => post r u.1 u.2.1 u.2.2.1 u.2.2.2.1 u.2.2.2.2) (fxC (mW D h0 ad cI cL)) A) 0 0 A := by
  refine fx_start (by decide +kernel) (Nat.le_of_ble_eq_true rfl) ?_
  intro p e s m below meth c ls hx hb hr hml hown hts hlocks hnm hB hl
  exact sMlinkAt_in ⟨hx, hb, hr, hml, hown, hts, hlocks, hB.2.1, hB.2.2, hD⟩ I J cn cm so a1 a2 a3 h _ _ ls hB.1 va_S.rf hl
def wMheads (post : Int32 → (Nat → Nat → Int32) → (Nat → Nat → Int64) → Int32 → Int64 → Int32 → Prop) (I : Nat → Nat → Int32) (J : Nat → Nat → Int64) (cn : Int32) (cm : Int64) (so : Int32) (a1 : Int32) : Prop := (wMisReplica (fun r1 I_1 J_1 cn_1 cm_1 so_1 => ((r1 = 0 → (post (-1) I_1 J_1 cn_1 cm_1 so_1)) ∧ (¬ r1 = 0 → (wMheadSet (fun r3 I_3 J_3 cn_3 cm_3 so_3 => (wMsize (fun r4 I_4 J_4 cn_4 cm_4 so_4 => (post r4 I_4 J_4 cn_4 cm_4 so_4)) I_3 J_3 cn_3 cm_3 so_3 r3)) I_1 J_1 cn_1 cm_1 so_1 a1)))) I J cn cm so a1)
set_option maxRecDepth 100000 in
set_option maxHeartbeats 4000000 in
theorem sMheads_in {p : Program} {l : Launch} {e : Env} {s : State} {m : MethodId} {args : Array Value} {below : List Frame} {meth : Method} {c : Code} {D : va_G} {A : Nat → Prop} {h0 : Nat} {ad : Nat → Nat} {cI cL : ClassId} {post : Int32 → (Nat → Nat → Int32) → (Nat → Nat → Int64) → Int32 → Int64 → Int32 → Prop} (C0 : mCx p s m args meth c D A h0 ad cI cL cXM_heads 2 (some .int)) : ∀ (I : Nat → Nat → Int32) (J : Nat → Nat → Int64) (cn : Int32) (cm : Int64) (so : Int32) (a1 : Int32), wMheads post I J cn cm so a1 → ∀ (H : Heap) (locs : List Loc) (ls : Array Slot), mW D h0 ad cI cL (I, J, cn, cm, so) H → va_S A s.heap H locs → lv_has ls 2 [(0, .ref h0), (1, .int a1)] → W p l e ({ frames := 2, cells := 0, slots := 0, locals := 46 } : Room) s m args below meth c H locs 0 0 (MQ below (va_Qi (fun (r : Int32) (u : mS) => post r u.1 u.2.1 u.2.2.1 u.2.2.2.1 u.2.2.2.2) (fxC (mW D h0 ad cI cL)) A) args s 0 0 A) (F0 m 0 ls []) := by
  obtain ⟨hx, hb, hr, hml, hown, hts, hlocks, hK, hN, hD⟩ := id C0
  intro I J cn cm so a1 h H locs ls hP hS hl
  replace h : (wMisReplica (fun r1 I_1 J_1 cn_1 cm_1 so_1 => ((r1 = 0 → (post (-1) I_1 J_1 cn_1 cm_1 so_1)) ∧ (¬ r1 = 0 → (wMheadSet (fun r3 I_3 J_3 cn_3 cm_3 so_3 => (wMsize (fun r4 I_4 J_4 cn_4 cm_4 so_4 => (post r4 I_4 J_4 cn_4 cm_4 so_4)) I_3 J_3 cn_3 cm_3 so_3 r3)) I_1 J_1 cn_1 cm_1 so_1 a1)))) I J cn cm so a1) := h
  refine lv_iload_n hx hb dXM_heads_0 rfl (lv_at hl 1 rfl) ?_
  refine va_calli (va_runS (As := [.int a1]) (rest := []) ⟨hx, hb, hml, hown, hts⟩ (cMisReplica hD h) (fx_cwS 1 hts gw_M_132 hdXM_isReplica ⟨Nat.le_of_ble_eq_true rfl, Nat.le_of_ble_eq_true rfl⟩) (fx_preS hP hK hN) rfl rfl hl.1 rfl (lv_room (Nat.le_of_ble_eq_true rfl)) dXM_heads_1 ⟨Nat.le_of_ble_eq_true rfl, Nat.le_of_ble_eq_true rfl⟩) hS (fun _ _ q => q) (fun _ q => q) (fun r1 u t H locs ht hvm h hP hz hk hS => ?_)
  rw [fxC, ht] at hP
  obtain ⟨I_1, J_1, cn_1, cm_1, so_1⟩ := u
  dsimp only at h
  refine lv_if_eq (tgt := 18) hx hb dXM_heads_4 (by decide) (fun c2 => ?_) (fun c2 => ?_)
  · replace h := h.1 c2
    refine lv_iconst (v := (-1)) hx hb dXM_heads_18 (by decide) ?_
    exact W.iret hx hb hr (fun t ht hW => ⟨⟨_, (I_1, J_1, cn_1, cm_1, so_1), rfl, h, by rw [fxC, ht]; exact hP⟩, hS.F ht⟩) hS.2.2 dXM_heads_19 hlocks
  · replace h := h.2 c2
    refine lv_aload_n hx hb dXM_heads_7 rfl (lv_at hl 0 rfl) ?_
    refine lv_iload_n hx hb dXM_heads_8 rfl (lv_at hl 1 rfl) ?_
    refine va_calll (va_runV (As := [.int a1]) (rest := []) ⟨hx, hb, hml, hown, hts⟩ (cMheadSet hD h) (fx_cwV 1 hts gw_M_157 hdXM_headSet ⟨Nat.le_of_ble_eq_true rfl, Nat.le_of_ble_eq_true rfl⟩) (fx_preV (m_recv hK hP) hP hK hN) rfl rfl hl.1 rfl (lv_room (Nat.le_of_ble_eq_true rfl)) dXM_heads_9 ⟨Nat.le_of_ble_eq_true rfl, Nat.le_of_ble_eq_true rfl⟩) hS (fun _ _ q => q) (fun _ q => q) (fun r3 u t H locs ht hvm h hP hz hk hS => ?_)
    rw [fxC, ht] at hP
    obtain ⟨I_3, J_3, cn_3, cm_3, so_3⟩ := u
    dsimp only at h
    refine va_calli (va_runS (As := [.long r3]) (rest := []) ⟨hx, hb, hml, hown, hts⟩ (cMsize hD h) (fx_cwS 1 hts gw_M_173 hdXM_size ⟨Nat.le_of_ble_eq_true rfl, Nat.le_of_ble_eq_true rfl⟩) (fx_preS hP hK hN) rfl rfl hl.1 rfl (lv_room (Nat.le_of_ble_eq_true rfl)) dXM_heads_12 ⟨Nat.le_of_ble_eq_true rfl, Nat.le_of_ble_eq_true rfl⟩) hS (fun _ _ q => q) (fun _ q => q) (fun r4 u t H locs ht hvm h hP hz hk hS => ?_)
    rw [fxC, ht] at hP
    obtain ⟨I_4, J_4, cn_4, cm_4, so_4⟩ := u
    dsimp only at h
    refine lv_goto (tgt := 19) hx hb dXM_heads_15 (by decide) ?_
    exact W.iret hx hb hr (fun t ht hW => ⟨⟨_, (I_4, J_4, cn_4, cm_4, so_4), rfl, h, by rw [fxC, ht]; exact hP⟩, hS.F ht⟩) hS.2.2 dXM_heads_19 hlocks
set_option maxRecDepth 100000 in
set_option maxHeartbeats 4000000 in
theorem cMheads {l : Launch} {D : va_G} {A : Nat → Prop} {h0 : Nat} {ad : Nat → Nat} {cI cL : ClassId} (hD : mDs A h0 ad cI cL) {post : Int32 → (Nat → Nat → Int32) → (Nat → Nat → Int64) → Int32 → Int64 → Int32 → Prop} {I : Nat → Nat → Int32} {J : Nat → Nat → Int64} {cn : Int32} {cm : Int64} {so : Int32} {a1 : Int32} (h : wMheads post I J cn cm so a1) : Met l yXM_heads (.code yXM_heads cXM_heads 2 (some .int) :: lg_tbl) ({ frames := 2, cells := 0, slots := 0, locals := 46 } : Room) (va_Pc [.ref h0, .int a1] (fxB (mW D h0 ad cI cL (I, J, cn, cm, so)) D vwCl (mTy cI cL))) (va_Qi (fun (r : Int32) (u : mS) => post r u.1 u.2.1 u.2.2.1 u.2.2.2.1 u.2.2.2.2) (fxC (mW D h0 ad cI cL)) A) 0 0 A := by
  refine fx_start (by decide +kernel) (Nat.le_of_ble_eq_true rfl) ?_
  intro p e s m below meth c ls hx hb hr hml hown hts hlocks hnm hB hl
  exact sMheads_in ⟨hx, hb, hr, hml, hown, hts, hlocks, hB.2.1, hB.2.2, hD⟩ I J cn cm so a1 h _ _ ls hB.1 va_S.rf hl
def wMheadAt (post : Int64 → (Nat → Nat → Int32) → (Nat → Nat → Int64) → Int32 → Int64 → Int32 → Prop) (I : Nat → Nat → Int32) (J : Nat → Nat → Int64) (cn : Int32) (cm : Int64) (so : Int32) (a1 : Int32) (a2 : Int32) : Prop := (wMisReplica (fun r1 I_1 J_1 cn_1 cm_1 so_1 => ((¬ r1 = 0 → (wMsortHeads (fun I_3 J_3 cn_3 cm_3 so_3 => ((a2 < 0 → (post 0 I_3 J_3 cn_3 cm_3 so_3)) ∧ (¬ a2 < 0 → ((a2 < so_3 → (vp_in a2 40 ∧ (vp_in (I_3 10 (Int32.toNatClampNeg a2)) 40 ∧ (post (J_3 0 (Int32.toNatClampNeg (I_3 10 (Int32.toNatClampNeg a2)))) I_3 J_3 cn_3 cm_3 so_3)))) ∧ (¬ a2 < so_3 → (post 0 I_3 J_3 cn_3 cm_3 so_3)))))) I_1 J_1 cn_1 cm_1 so_1 a1)) ∧ (r1 = 0 → (post 0 I_1 J_1 cn_1 cm_1 so_1)))) I J cn cm so a1)
set_option maxRecDepth 100000 in
set_option maxHeartbeats 4000000 in
theorem sMheadAt_in {p : Program} {l : Launch} {e : Env} {s : State} {m : MethodId} {args : Array Value} {below : List Frame} {meth : Method} {c : Code} {D : va_G} {A : Nat → Prop} {h0 : Nat} {ad : Nat → Nat} {cI cL : ClassId} {post : Int64 → (Nat → Nat → Int32) → (Nat → Nat → Int64) → Int32 → Int64 → Int32 → Prop} (C0 : mCx p s m args meth c D A h0 ad cI cL cXM_headAt 3 (some .long)) : ∀ (I : Nat → Nat → Int32) (J : Nat → Nat → Int64) (cn : Int32) (cm : Int64) (so : Int32) (a1 : Int32) (a2 : Int32), wMheadAt post I J cn cm so a1 a2 → ∀ (H : Heap) (locs : List Loc) (ls : Array Slot), mW D h0 ad cI cL (I, J, cn, cm, so) H → va_S A s.heap H locs → lv_has ls 3 [(0, .ref h0), (1, .int a1), (2, .int a2)] → W p l e ({ frames := 3, cells := 0, slots := 0, locals := 69 } : Room) s m args below meth c H locs 0 0 (MQ below (va_Ql (fun (r : Int64) (u : mS) => post r u.1 u.2.1 u.2.2.1 u.2.2.2.1 u.2.2.2.2) (fxC (mW D h0 ad cI cL)) A) args s 0 0 A) (F0 m 0 ls []) := by
  obtain ⟨hx, hb, hr, hml, hown, hts, hlocks, hK, hN, hD⟩ := id C0
  intro I J cn cm so a1 a2 h H locs ls hP hS hl
  replace h : (wMisReplica (fun r1 I_1 J_1 cn_1 cm_1 so_1 => ((¬ r1 = 0 → (wMsortHeads (fun I_3 J_3 cn_3 cm_3 so_3 => ((a2 < 0 → (post 0 I_3 J_3 cn_3 cm_3 so_3)) ∧ (¬ a2 < 0 → ((a2 < so_3 → (vp_in a2 40 ∧ (vp_in (I_3 10 (Int32.toNatClampNeg a2)) 40 ∧ (post (J_3 0 (Int32.toNatClampNeg (I_3 10 (Int32.toNatClampNeg a2)))) I_3 J_3 cn_3 cm_3 so_3)))) ∧ (¬ a2 < so_3 → (post 0 I_3 J_3 cn_3 cm_3 so_3)))))) I_1 J_1 cn_1 cm_1 so_1 a1)) ∧ (r1 = 0 → (post 0 I_1 J_1 cn_1 cm_1 so_1)))) I J cn cm so a1) := h
  refine lv_iload_n hx hb dXM_headAt_0 rfl (lv_at hl 1 rfl) ?_
  refine va_calli (va_runS (As := [.int a1]) (rest := []) ⟨hx, hb, hml, hown, hts⟩ (cMisReplica hD h) (fx_cwS 1 hts gw_M_132 hdXM_isReplica ⟨Nat.le_of_ble_eq_true rfl, Nat.le_of_ble_eq_true rfl⟩) (fx_preS hP hK hN) rfl rfl hl.1 rfl (lv_room (Nat.le_of_ble_eq_true rfl)) dXM_headAt_1 ⟨Nat.le_of_ble_eq_true rfl, Nat.le_of_ble_eq_true rfl⟩) hS (fun _ _ q => q) (fun _ q => q) (fun r1 u t H locs ht hvm h hP hz hk hS => ?_)
  rw [fxC, ht] at hP
  obtain ⟨I_1, J_1, cn_1, cm_1, so_1⟩ := u
  dsimp only at h
  refine lv_if_ne (tgt := 9) hx hb dXM_headAt_4 (by decide) (fun c2 => ?_) (fun c2 => ?_)
  · replace h := h.1 c2
    refine lv_aload_n hx hb dXM_headAt_9 rfl (lv_at hl 0 rfl) ?_
    refine lv_iload_n hx hb dXM_headAt_10 rfl (lv_at hl 1 rfl) ?_
    refine va_callv (va_runV (As := [.int a1]) (rest := []) ⟨hx, hb, hml, hown, hts⟩ (cMsortHeads hD h) (fx_cwV 1 hts gw_M_135 hdXM_sortHeads ⟨Nat.le_of_ble_eq_true rfl, Nat.le_of_ble_eq_true rfl⟩) (fx_preV (m_recv hK hP) hP hK hN) rfl rfl hl.1 rfl (lv_room (Nat.le_of_ble_eq_true rfl)) dXM_headAt_11 ⟨Nat.le_of_ble_eq_true rfl, Nat.le_of_ble_eq_true rfl⟩) hS (fun _ _ q => q) (fun _ q => q) (fun u t H locs ht hvm h hP hz hk hS => ?_)
    rw [fxC, ht] at hP
    obtain ⟨I_3, J_3, cn_3, cm_3, so_3⟩ := u
    dsimp only at h
    refine lv_iload_n hx hb dXM_headAt_14 rfl (lv_at hl 2 rfl) ?_
    refine lv_if_lt (tgt := 26) hx hb dXM_headAt_15 (by decide) (fun c4 => ?_) (fun c4 => ?_)
    · replace h := h.1 c4
      refine lv_lconst (v := 0) hx hb dXM_headAt_26 (by decide) ?_
      refine lv_goto (tgt := 41) hx hb dXM_headAt_27 (by decide) ?_
      exact W.lret hx hb hr (fun t ht hW => ⟨⟨_, (I_3, J_3, cn_3, cm_3, so_3), rfl, h, by rw [fxC, ht]; exact hP⟩, hS.F ht⟩) hS.2.2 dXM_headAt_41 hlocks
    · replace h := h.2 c4
      refine lv_iload_n hx hb dXM_headAt_18 rfl (lv_at hl 2 rfl) ?_
      refine lv_aload_n hx hb dXM_headAt_19 rfl (lv_at hl 0 rfl) ?_
      refine mg_sorted hx hb hown hts hK hP dXM_headAt_20 ?_
      refine lv_icmp_lt (tgt := 30) hx hb dXM_headAt_23 (by decide) (fun c5 => ?_) (fun c5 => ?_)
      · replace h := h.1 c5
        refine lv_aload_n hx hb dXM_headAt_30 rfl (lv_at hl 0 rfl) ?_
        refine mg_hash hx hb hown hts hK hP dXM_headAt_31 ?_
        refine lv_aload_n hx hb dXM_headAt_34 rfl (lv_at hl 0 rfl) ?_
        refine mg_order hx hb hown hts hK hP dXM_headAt_35 ?_
        refine lv_iload_n hx hb dXM_headAt_38 rfl (lv_at hl 2 rfl) ?_
        obtain ⟨h6, h⟩ := h
        refine ma_18 hx hb hK hP h6 dXM_headAt_39 ?_
        obtain ⟨h7, h⟩ := h
        refine ma_0 hx hb hK hP h7 dXM_headAt_40 ?_
        exact W.lret hx hb hr (fun t ht hW => ⟨⟨_, (I_3, J_3, cn_3, cm_3, so_3), rfl, h, by rw [fxC, ht]; exact hP⟩, hS.F ht⟩) hS.2.2 dXM_headAt_41 hlocks
      · replace h := h.2 c5
        refine lv_lconst (v := 0) hx hb dXM_headAt_26 (by decide) ?_
        refine lv_goto (tgt := 41) hx hb dXM_headAt_27 (by decide) ?_
        exact W.lret hx hb hr (fun t ht hW => ⟨⟨_, (I_3, J_3, cn_3, cm_3, so_3), rfl, h, by rw [fxC, ht]; exact hP⟩, hS.F ht⟩) hS.2.2 dXM_headAt_41 hlocks
  · replace h := h.2 c2
    refine lv_lconst (v := 0) hx hb dXM_headAt_7 (by decide) ?_
    exact W.lret hx hb hr (fun t ht hW => ⟨⟨_, (I_1, J_1, cn_1, cm_1, so_1), rfl, h, by rw [fxC, ht]; exact hP⟩, hS.F ht⟩) hS.2.2 dXM_headAt_8 hlocks
set_option maxRecDepth 100000 in
set_option maxHeartbeats 4000000 in
theorem cMheadAt {l : Launch} {D : va_G} {A : Nat → Prop} {h0 : Nat} {ad : Nat → Nat} {cI cL : ClassId} (hD : mDs A h0 ad cI cL) {post : Int64 → (Nat → Nat → Int32) → (Nat → Nat → Int64) → Int32 → Int64 → Int32 → Prop} {I : Nat → Nat → Int32} {J : Nat → Nat → Int64} {cn : Int32} {cm : Int64} {so : Int32} {a1 : Int32} {a2 : Int32} (h : wMheadAt post I J cn cm so a1 a2) : Met l yXM_headAt (.code yXM_headAt cXM_headAt 3 (some .long) :: lg_tbl) ({ frames := 3, cells := 0, slots := 0, locals := 69 } : Room) (va_Pc [.ref h0, .int a1, .int a2] (fxB (mW D h0 ad cI cL (I, J, cn, cm, so)) D vwCl (mTy cI cL))) (va_Ql (fun (r : Int64) (u : mS) => post r u.1 u.2.1 u.2.2.1 u.2.2.2.1 u.2.2.2.2) (fxC (mW D h0 ad cI cL)) A) 0 0 A := by
  refine fx_start (by decide +kernel) (Nat.le_of_ble_eq_true rfl) ?_
  intro p e s m below meth c ls hx hb hr hml hown hts hlocks hnm hB hl
  exact sMheadAt_in ⟨hx, hb, hr, hml, hown, hts, hlocks, hB.2.1, hB.2.2, hD⟩ I J cn cm so a1 a2 h _ _ ls hB.1 va_S.rf hl
noncomputable def wMvalue_35 (post : Int32 → (Nat → Nat → Int32) → (Nat → Nat → Int64) → Int32 → Int64 → Int32 → Prop) (n : Nat) : (Nat → Nat → Int32) → (Nat → Nat → Int64) → Int32 → Int64 → Int32 → Int32 → Int32 → Int32 → Prop := Nat.rec (motive := fun _ => (Nat → Nat → Int32) → (Nat → Nat → Int64) → Int32 → Int64 → Int32 → Int32 → Int32 → Int32 → Prop) (fun _ _ _ _ _ _ _ _ => False) (fun _ K35 I J cn cm so v2 v3 v4 => ((so ≤ v4 → (post v3 I J cn cm so)) ∧ (¬ so ≤ v4 → (vp_in v4 40 ∧ (vp_in (I 10 (Int32.toNatClampNeg v4)) 40 ∧ ((¬ (I 2 (Int32.toNatClampNeg (I 10 (Int32.toNatClampNeg v4)))) = v2 → (K35 I J cn cm so v2 v3 (v4 + 1))) ∧ ((I 2 (Int32.toNatClampNeg (I 10 (Int32.toNatClampNeg v4)))) = v2 → (vp_in (I 10 (Int32.toNatClampNeg v4)) 40 ∧ ((2 ≤ (I 1 (Int32.toNatClampNeg (I 10 (Int32.toNatClampNeg v4)))) → (K35 I J cn cm so v2 v3 (v4 + 1))) ∧ (¬ 2 ≤ (I 1 (Int32.toNatClampNeg (I 10 (Int32.toNatClampNeg v4)))) → (vp_in (I 10 (Int32.toNatClampNeg v4)) 40 ∧ ((¬ (I 1 (Int32.toNatClampNeg (I 10 (Int32.toNatClampNeg v4)))) = 0 → (vp_in (I 10 (Int32.toNatClampNeg v4)) 40 ∧ ∀ x16, x16 = v3 + (I 3 (Int32.toNatClampNeg (I 10 (Int32.toNatClampNeg v4)))) → (K35 I J cn cm so v2 x16 (v4 + 1)))) ∧ ((I 1 (Int32.toNatClampNeg (I 10 (Int32.toNatClampNeg v4)))) = 0 → (vp_in (I 10 (Int32.toNatClampNeg v4)) 40 ∧ ∀ x18, x18 = I 3 (Int32.toNatClampNeg (I 10 (Int32.toNatClampNeg v4))) → (K35 I J cn cm so v2 x18 (v4 + 1)))))))))))))))) n
def wMvalue (post : Int32 → (Nat → Nat → Int32) → (Nat → Nat → Int64) → Int32 → Int64 → Int32 → Prop) (I : Nat → Nat → Int32) (J : Nat → Nat → Int64) (cn : Int32) (cm : Int64) (so : Int32) (a1 : Int32) (a2 : Int32) : Prop := (wMisReplica (fun r1 I_1 J_1 cn_1 cm_1 so_1 => ((r1 = 0 → (post 0 I_1 J_1 cn_1 cm_1 so_1)) ∧ (¬ r1 = 0 → ((a2 < 0 → (post 0 I_1 J_1 cn_1 cm_1 so_1)) ∧ (¬ a2 < 0 → ((a2 ≤ 7 → (vp_in a1 4 ∧ (wMsort (fun I_6 J_6 cn_6 cm_6 so_6 => (∃ k, wMvalue_35 post  k I_6 J_6 cn_6 cm_6 so_6 a2 0 0)) I_1 J_1 cn_1 cm_1 so_1 (J_1 3 (Int32.toNatClampNeg a1)) 1))) ∧ (¬ a2 ≤ 7 → (post 0 I_1 J_1 cn_1 cm_1 so_1)))))))) I J cn cm so a1)
set_option maxRecDepth 100000 in
set_option maxHeartbeats 4000000 in
theorem sMvalue_35 {p : Program} {l : Launch} {e : Env} {s : State} {m : MethodId} {args : Array Value} {below : List Frame} {meth : Method} {c : Code} {D : va_G} {A : Nat → Prop} {h0 : Nat} {ad : Nat → Nat} {cI cL : ClassId} {post : Int32 → (Nat → Nat → Int32) → (Nat → Nat → Int64) → Int32 → Int64 → Int32 → Prop} (C0 : mCx p s m args meth c D A h0 ad cI cL cXM_value 6 (some .int)) : ∀ (n : Nat) (I : Nat → Nat → Int32) (J : Nat → Nat → Int64) (cn : Int32) (cm : Int64) (so : Int32) (v2 : Int32) (v3 : Int32) (v4 : Int32), wMvalue_35 post  n I J cn cm so v2 v3 v4 → ∀ (H : Heap) (locs : List Loc) (ls : Array Slot), mW D h0 ad cI cL (I, J, cn, cm, so) H → va_S A s.heap H locs → lv_has ls 6 [(0, .ref h0), (2, .int v2), (3, .int v3), (4, .int v4)] → W p l e ({ frames := 2, cells := 0, slots := 0, locals := 48 } : Room) s m args below meth c H locs 0 0 (MQ below (va_Qi (fun (r : Int32) (u : mS) => post r u.1 u.2.1 u.2.2.1 u.2.2.2.1 u.2.2.2.2) (fxC (mW D h0 ad cI cL)) A) args s 0 0 A) (F0 m 35 ls []) := by
  obtain ⟨hx, hb, hr, hml, hown, hts, hlocks, hK, hN, hD⟩ := id C0
  intro n
  induction n with
  | zero => exact fun _ _ _ _ _ _ _ _ h => h.elim
  | succ n hK35 =>
    intro I J cn cm so v2 v3 v4 h H locs ls hP hS hl
    replace h : ((so ≤ v4 → (post v3 I J cn cm so)) ∧ (¬ so ≤ v4 → (vp_in v4 40 ∧ (vp_in (I 10 (Int32.toNatClampNeg v4)) 40 ∧ ((¬ (I 2 (Int32.toNatClampNeg (I 10 (Int32.toNatClampNeg v4)))) = v2 → ((wMvalue_35 post  n) I J cn cm so v2 v3 (v4 + 1))) ∧ ((I 2 (Int32.toNatClampNeg (I 10 (Int32.toNatClampNeg v4)))) = v2 → (vp_in (I 10 (Int32.toNatClampNeg v4)) 40 ∧ ((2 ≤ (I 1 (Int32.toNatClampNeg (I 10 (Int32.toNatClampNeg v4)))) → ((wMvalue_35 post  n) I J cn cm so v2 v3 (v4 + 1))) ∧ (¬ 2 ≤ (I 1 (Int32.toNatClampNeg (I 10 (Int32.toNatClampNeg v4)))) → (vp_in (I 10 (Int32.toNatClampNeg v4)) 40 ∧ ((¬ (I 1 (Int32.toNatClampNeg (I 10 (Int32.toNatClampNeg v4)))) = 0 → (vp_in (I 10 (Int32.toNatClampNeg v4)) 40 ∧ ∀ x16, x16 = v3 + (I 3 (Int32.toNatClampNeg (I 10 (Int32.toNatClampNeg v4)))) → ((wMvalue_35 post  n) I J cn cm so v2 x16 (v4 + 1)))) ∧ ((I 1 (Int32.toNatClampNeg (I 10 (Int32.toNatClampNeg v4)))) = 0 → (vp_in (I 10 (Int32.toNatClampNeg v4)) 40 ∧ ∀ x18, x18 = I 3 (Int32.toNatClampNeg (I 10 (Int32.toNatClampNeg v4))) → ((wMvalue_35 post  n) I J cn cm so v2 x18 (v4 + 1))))))))))))))) := h
    refine lv_iload hx hb dXM_value_35 (lv_at hl 3 rfl) ?_
    refine lv_aload_n hx hb dXM_value_37 rfl (lv_at hl 0 rfl) ?_
    refine mg_sorted hx hb hown hts hK hP dXM_value_38 ?_
    refine lv_icmp_ge (tgt := 111) hx hb dXM_value_41 (by decide) (fun c7 => ?_) (fun c7 => ?_)
    · replace h := h.1 c7
      refine lv_iload_n hx hb dXM_value_111 rfl (lv_at hl 2 rfl) ?_
      exact W.iret hx hb hr (fun t ht hW => ⟨⟨_, (I, J, cn, cm, so), rfl, h, by rw [fxC, ht]; exact hP⟩, hS.F ht⟩) hS.2.2 dXM_value_112 hlocks
    · replace h := h.2 c7
      refine lv_aload_n hx hb dXM_value_44 rfl (lv_at hl 0 rfl) ?_
      refine mg_order hx hb hown hts hK hP dXM_value_45 ?_
      refine lv_iload hx hb dXM_value_48 (lv_at hl 3 rfl) ?_
      obtain ⟨h8, h⟩ := h
      refine ma_18 hx hb hK hP h8 dXM_value_50 ?_
      refine lv_istore (lv' := [(5, .int (I 10 (Int32.toNatClampNeg v4))), (0, .ref h0), (2, .int v2), (3, .int v3), (4, .int v4)]) hx hb dXM_value_51 hl (by decide) rfl (fun ls hl => ?_)
      refine lv_aload_n hx hb dXM_value_53 rfl (lv_at hl 1 rfl) ?_
      refine mg_key hx hb hown hts hK hP dXM_value_54 ?_
      refine lv_iload hx hb dXM_value_57 (lv_at hl 0 rfl) ?_
      obtain ⟨h9, h⟩ := h
      refine ma_3 hx hb hK hP h9 dXM_value_59 ?_
      refine lv_iload_n hx hb dXM_value_60 rfl (lv_at hl 2 rfl) ?_
      refine lv_icmp_ne (tgt := 105) hx hb dXM_value_61 (by decide) (fun c10 => ?_) (fun c10 => ?_)
      · replace h := h.1 c10
        refine lv_iinc (v := v4 + 1) (lv' := [(4, .int (v4 + 1)), (5, .int (I 10 (Int32.toNatClampNeg v4))), (0, .ref h0), (2, .int v2), (3, .int v3)]) hx hb dXM_value_105 hl (k := 4) rfl rfl (by decide) rfl (fun ls hl => ?_)
        refine lv_goto (tgt := 35) hx hb dXM_value_108 (by decide) ?_
        exact hK35 I J cn cm so v2 v3 (v4 + 1) h H locs ls hP hS (lv_sub hl [2, 3, 4, 0] rfl)
      · replace h := h.2 c10
        refine lv_aload_n hx hb dXM_value_64 rfl (lv_at hl 1 rfl) ?_
        refine mg_kind hx hb hown hts hK hP dXM_value_65 ?_
        refine lv_iload hx hb dXM_value_68 (lv_at hl 0 rfl) ?_
        obtain ⟨h11, h⟩ := h
        refine ma_2 hx hb hK hP h11 dXM_value_70 ?_
        refine lv_iconst (v := 2) hx hb dXM_value_71 (by decide) ?_
        refine lv_icmp_ge (tgt := 105) hx hb dXM_value_72 (by decide) (fun c12 => ?_) (fun c12 => ?_)
        · replace h := h.1 c12
          refine lv_iinc (v := v4 + 1) (lv' := [(4, .int (v4 + 1)), (5, .int (I 10 (Int32.toNatClampNeg v4))), (0, .ref h0), (2, .int v2), (3, .int v3)]) hx hb dXM_value_105 hl (k := 4) rfl rfl (by decide) rfl (fun ls hl => ?_)
          refine lv_goto (tgt := 35) hx hb dXM_value_108 (by decide) ?_
          exact hK35 I J cn cm so v2 v3 (v4 + 1) h H locs ls hP hS (lv_sub hl [2, 3, 4, 0] rfl)
        · replace h := h.2 c12
          refine lv_aload_n hx hb dXM_value_75 rfl (lv_at hl 1 rfl) ?_
          refine mg_kind hx hb hown hts hK hP dXM_value_76 ?_
          refine lv_iload hx hb dXM_value_79 (lv_at hl 0 rfl) ?_
          obtain ⟨h13, h⟩ := h
          refine ma_2 hx hb hK hP h13 dXM_value_81 ?_
          refine lv_if_ne (tgt := 95) hx hb dXM_value_82 (by decide) (fun c14 => ?_) (fun c14 => ?_)
          · replace h := h.1 c14
            refine lv_iload_n hx hb dXM_value_95 rfl (lv_at hl 3 rfl) ?_
            refine lv_aload_n hx hb dXM_value_96 rfl (lv_at hl 1 rfl) ?_
            refine mg_value hx hb hown hts hK hP dXM_value_97 ?_
            refine lv_iload hx hb dXM_value_100 (lv_at hl 0 rfl) ?_
            obtain ⟨h15, h⟩ := h
            refine ma_4 hx hb hK hP h15 dXM_value_102 ?_
            refine lv_iadd hx hb dXM_value_103 ?_
            refine lv_topi (fun x16 ex16 => ?_)
            replace h := h x16 ex16
            refine lv_istore_n (lv' := [(3, .int x16), (5, .int (I 10 (Int32.toNatClampNeg v4))), (0, .ref h0), (2, .int v2), (4, .int v4)]) hx hb dXM_value_104 rfl hl (by decide) rfl (fun ls hl => ?_)
            refine lv_iinc (v := v4 + 1) (lv' := [(4, .int (v4 + 1)), (3, .int x16), (5, .int (I 10 (Int32.toNatClampNeg v4))), (0, .ref h0), (2, .int v2)]) hx hb dXM_value_105 hl (k := 4) rfl rfl (by decide) rfl (fun ls hl => ?_)
            refine lv_goto (tgt := 35) hx hb dXM_value_108 (by decide) ?_
            exact hK35 I J cn cm so v2 x16 (v4 + 1) h H locs ls hP hS (lv_sub hl [3, 4, 1, 0] rfl)
          · replace h := h.2 c14
            refine lv_aload_n hx hb dXM_value_85 rfl (lv_at hl 1 rfl) ?_
            refine mg_value hx hb hown hts hK hP dXM_value_86 ?_
            refine lv_iload hx hb dXM_value_89 (lv_at hl 0 rfl) ?_
            obtain ⟨h17, h⟩ := h
            refine ma_4 hx hb hK hP h17 dXM_value_91 ?_
            refine lv_goto (tgt := 104) hx hb dXM_value_92 (by decide) ?_
            refine lv_topi (fun x18 ex18 => ?_)
            replace h := h x18 ex18
            refine lv_istore_n (lv' := [(3, .int x18), (5, .int (I 10 (Int32.toNatClampNeg v4))), (0, .ref h0), (2, .int v2), (4, .int v4)]) hx hb dXM_value_104 rfl hl (by decide) rfl (fun ls hl => ?_)
            refine lv_iinc (v := v4 + 1) (lv' := [(4, .int (v4 + 1)), (3, .int x18), (5, .int (I 10 (Int32.toNatClampNeg v4))), (0, .ref h0), (2, .int v2)]) hx hb dXM_value_105 hl (k := 4) rfl rfl (by decide) rfl (fun ls hl => ?_)
            refine lv_goto (tgt := 35) hx hb dXM_value_108 (by decide) ?_
            exact hK35 I J cn cm so v2 x18 (v4 + 1) h H locs ls hP hS (lv_sub hl [3, 4, 1, 0] rfl)
set_option maxRecDepth 100000 in
set_option maxHeartbeats 4000000 in
theorem sMvalue_in {p : Program} {l : Launch} {e : Env} {s : State} {m : MethodId} {args : Array Value} {below : List Frame} {meth : Method} {c : Code} {D : va_G} {A : Nat → Prop} {h0 : Nat} {ad : Nat → Nat} {cI cL : ClassId} {post : Int32 → (Nat → Nat → Int32) → (Nat → Nat → Int64) → Int32 → Int64 → Int32 → Prop} (C0 : mCx p s m args meth c D A h0 ad cI cL cXM_value 6 (some .int)) : ∀ (I : Nat → Nat → Int32) (J : Nat → Nat → Int64) (cn : Int32) (cm : Int64) (so : Int32) (a1 : Int32) (a2 : Int32), wMvalue post I J cn cm so a1 a2 → ∀ (H : Heap) (locs : List Loc) (ls : Array Slot), mW D h0 ad cI cL (I, J, cn, cm, so) H → va_S A s.heap H locs → lv_has ls 6 [(0, .ref h0), (1, .int a1), (2, .int a2)] → W p l e ({ frames := 2, cells := 0, slots := 0, locals := 48 } : Room) s m args below meth c H locs 0 0 (MQ below (va_Qi (fun (r : Int32) (u : mS) => post r u.1 u.2.1 u.2.2.1 u.2.2.2.1 u.2.2.2.2) (fxC (mW D h0 ad cI cL)) A) args s 0 0 A) (F0 m 0 ls []) := by
  obtain ⟨hx, hb, hr, hml, hown, hts, hlocks, hK, hN, hD⟩ := id C0
  intro I J cn cm so a1 a2 h H locs ls hP hS hl
  replace h : (wMisReplica (fun r1 I_1 J_1 cn_1 cm_1 so_1 => ((r1 = 0 → (post 0 I_1 J_1 cn_1 cm_1 so_1)) ∧ (¬ r1 = 0 → ((a2 < 0 → (post 0 I_1 J_1 cn_1 cm_1 so_1)) ∧ (¬ a2 < 0 → ((a2 ≤ 7 → (vp_in a1 4 ∧ (wMsort (fun I_6 J_6 cn_6 cm_6 so_6 => (∃ k, wMvalue_35 post  k I_6 J_6 cn_6 cm_6 so_6 a2 0 0)) I_1 J_1 cn_1 cm_1 so_1 (J_1 3 (Int32.toNatClampNeg a1)) 1))) ∧ (¬ a2 ≤ 7 → (post 0 I_1 J_1 cn_1 cm_1 so_1)))))))) I J cn cm so a1) := h
  refine lv_iload_n hx hb dXM_value_0 rfl (lv_at hl 1 rfl) ?_
  refine va_calli (va_runS (As := [.int a1]) (rest := []) ⟨hx, hb, hml, hown, hts⟩ (cMisReplica hD h) (fx_cwS 1 hts gw_M_132 hdXM_isReplica ⟨Nat.le_of_ble_eq_true rfl, Nat.le_of_ble_eq_true rfl⟩) (fx_preS hP hK hN) rfl rfl hl.1 rfl (lv_room (Nat.le_of_ble_eq_true rfl)) dXM_value_1 ⟨Nat.le_of_ble_eq_true rfl, Nat.le_of_ble_eq_true rfl⟩) hS (fun _ _ q => q) (fun _ q => q) (fun r1 u t H locs ht hvm h hP hz hk hS => ?_)
  rw [fxC, ht] at hP
  obtain ⟨I_1, J_1, cn_1, cm_1, so_1⟩ := u
  dsimp only at h
  refine lv_if_eq (tgt := 17) hx hb dXM_value_4 (by decide) (fun c2 => ?_) (fun c2 => ?_)
  · replace h := h.1 c2
    refine lv_iconst (v := 0) hx hb dXM_value_17 (by decide) ?_
    exact W.iret hx hb hr (fun t ht hW => ⟨⟨_, (I_1, J_1, cn_1, cm_1, so_1), rfl, h, by rw [fxC, ht]; exact hP⟩, hS.F ht⟩) hS.2.2 dXM_value_18 hlocks
  · replace h := h.2 c2
    refine lv_iload_n hx hb dXM_value_7 rfl (lv_at hl 2 rfl) ?_
    refine lv_if_lt (tgt := 17) hx hb dXM_value_8 (by decide) (fun c3 => ?_) (fun c3 => ?_)
    · replace h := h.1 c3
      refine lv_iconst (v := 0) hx hb dXM_value_17 (by decide) ?_
      exact W.iret hx hb hr (fun t ht hW => ⟨⟨_, (I_1, J_1, cn_1, cm_1, so_1), rfl, h, by rw [fxC, ht]; exact hP⟩, hS.F ht⟩) hS.2.2 dXM_value_18 hlocks
    · replace h := h.2 c3
      refine lv_iload_n hx hb dXM_value_11 rfl (lv_at hl 2 rfl) ?_
      refine lv_bipush (v := 7) hx hb dXM_value_12 (by decide) ?_
      refine lv_icmp_le (tgt := 19) hx hb dXM_value_14 (by decide) (fun c4 => ?_) (fun c4 => ?_)
      · replace h := h.1 c4
        refine lv_aload_n hx hb dXM_value_19 rfl (lv_at hl 0 rfl) ?_
        refine lv_aload_n hx hb dXM_value_20 rfl (lv_at hl 0 rfl) ?_
        refine mg_holds hx hb hown hts hK hP dXM_value_21 ?_
        refine lv_iload_n hx hb dXM_value_24 rfl (lv_at hl 1 rfl) ?_
        obtain ⟨h5, h⟩ := h
        refine ma_9 hx hb hK hP h5 dXM_value_25 ?_
        refine lv_iconst (v := 1) hx hb dXM_value_26 (by decide) ?_
        refine va_callv (va_runV (As := [.long (J_1 3 (Int32.toNatClampNeg a1)), .int 1]) (rest := []) ⟨hx, hb, hml, hown, hts⟩ (cMsort hD h) (fx_cwV 2 hts gw_M_153 hdXM_sort ⟨Nat.le_of_ble_eq_true rfl, Nat.le_of_ble_eq_true rfl⟩) (fx_preV (m_recv hK hP) hP hK hN) rfl rfl hl.1 rfl (lv_room (Nat.le_of_ble_eq_true rfl)) dXM_value_27 ⟨Nat.le_of_ble_eq_true rfl, Nat.le_of_ble_eq_true rfl⟩) hS (fun _ _ q => q) (fun _ q => q) (fun u t H locs ht hvm h hP hz hk hS => ?_)
        rw [fxC, ht] at hP
        obtain ⟨I_6, J_6, cn_6, cm_6, so_6⟩ := u
        dsimp only at h
        refine lv_iconst (v := 0) hx hb dXM_value_30 (by decide) ?_
        refine lv_istore_n (lv' := [(3, .int 0), (0, .ref h0), (1, .int a1), (2, .int a2)]) hx hb dXM_value_31 rfl hl (by decide) rfl (fun ls hl => ?_)
        refine lv_iconst (v := 0) hx hb dXM_value_32 (by decide) ?_
        refine lv_istore (lv' := [(4, .int 0), (3, .int 0), (0, .ref h0), (1, .int a1), (2, .int a2)]) hx hb dXM_value_33 hl (by decide) rfl (fun ls hl => ?_)
        obtain ⟨k, h⟩ := h
        exact sMvalue_35  C0  k I_6 J_6 cn_6 cm_6 so_6 a2 0 0 h H locs ls hP hS (lv_sub hl [2, 4, 1, 0] rfl)
      · replace h := h.2 c4
        refine lv_iconst (v := 0) hx hb dXM_value_17 (by decide) ?_
        exact W.iret hx hb hr (fun t ht hW => ⟨⟨_, (I_1, J_1, cn_1, cm_1, so_1), rfl, h, by rw [fxC, ht]; exact hP⟩, hS.F ht⟩) hS.2.2 dXM_value_18 hlocks
set_option maxRecDepth 100000 in
set_option maxHeartbeats 4000000 in
theorem cMvalue {l : Launch} {D : va_G} {A : Nat → Prop} {h0 : Nat} {ad : Nat → Nat} {cI cL : ClassId} (hD : mDs A h0 ad cI cL) {post : Int32 → (Nat → Nat → Int32) → (Nat → Nat → Int64) → Int32 → Int64 → Int32 → Prop} {I : Nat → Nat → Int32} {J : Nat → Nat → Int64} {cn : Int32} {cm : Int64} {so : Int32} {a1 : Int32} {a2 : Int32} (h : wMvalue post I J cn cm so a1 a2) : Met l yXM_value (.code yXM_value cXM_value 6 (some .int) :: lg_tbl) ({ frames := 2, cells := 0, slots := 0, locals := 48 } : Room) (va_Pc [.ref h0, .int a1, .int a2] (fxB (mW D h0 ad cI cL (I, J, cn, cm, so)) D vwCl (mTy cI cL))) (va_Qi (fun (r : Int32) (u : mS) => post r u.1 u.2.1 u.2.2.1 u.2.2.2.1 u.2.2.2.2) (fxC (mW D h0 ad cI cL)) A) 0 0 A := by
  refine fx_start (by decide +kernel) (Nat.le_of_ble_eq_true rfl) ?_
  intro p e s m below meth c ls hx hb hr hml hown hts hlocks hnm hB hl
  exact sMvalue_in ⟨hx, hb, hr, hml, hown, hts, hlocks, hB.2.1, hB.2.2, hD⟩ I J cn cm so a1 a2 h _ _ ls hB.1 va_S.rf hl
def wMall (post : Int32 → (Nat → Nat → Int32) → (Nat → Nat → Int64) → Int32 → Int64 → Int32 → Prop) (I : Nat → Nat → Int32) (J : Nat → Nat → Int64) (cn : Int32) (cm : Int64) (so : Int32) : Prop := (post cn I J cn cm so)
set_option maxRecDepth 100000 in
set_option maxHeartbeats 4000000 in
theorem sMall_in {p : Program} {l : Launch} {e : Env} {s : State} {m : MethodId} {args : Array Value} {below : List Frame} {meth : Method} {c : Code} {D : va_G} {A : Nat → Prop} {h0 : Nat} {ad : Nat → Nat} {cI cL : ClassId} {post : Int32 → (Nat → Nat → Int32) → (Nat → Nat → Int64) → Int32 → Int64 → Int32 → Prop} (C0 : mCx p s m args meth c D A h0 ad cI cL cXM_all 1 (some .int)) : ∀ (I : Nat → Nat → Int32) (J : Nat → Nat → Int64) (cn : Int32) (cm : Int64) (so : Int32), wMall post I J cn cm so → ∀ (H : Heap) (locs : List Loc) (ls : Array Slot), mW D h0 ad cI cL (I, J, cn, cm, so) H → va_S A s.heap H locs → lv_has ls 1 [(0, .ref h0)] → W p l e ({ frames := 0, cells := 0, slots := 0, locals := 0 } : Room) s m args below meth c H locs 0 0 (MQ below (va_Qi (fun (r : Int32) (u : mS) => post r u.1 u.2.1 u.2.2.1 u.2.2.2.1 u.2.2.2.2) (fxC (mW D h0 ad cI cL)) A) args s 0 0 A) (F0 m 0 ls []) := by
  obtain ⟨hx, hb, hr, hml, hown, hts, hlocks, hK, hN, hD⟩ := id C0
  intro I J cn cm so h H locs ls hP hS hl
  replace h : (post cn I J cn cm so) := h
  refine lv_aload_n hx hb dXM_all_0 rfl (lv_at hl 0 rfl) ?_
  refine mg_count hx hb hown hts hK hP dXM_all_1 ?_
  exact W.iret hx hb hr (fun t ht hW => ⟨⟨_, (I, J, cn, cm, so), rfl, h, by rw [fxC, ht]; exact hP⟩, hS.F ht⟩) hS.2.2 dXM_all_4 hlocks
set_option maxRecDepth 100000 in
set_option maxHeartbeats 4000000 in
theorem cMall {l : Launch} {D : va_G} {A : Nat → Prop} {h0 : Nat} {ad : Nat → Nat} {cI cL : ClassId} (hD : mDs A h0 ad cI cL) {post : Int32 → (Nat → Nat → Int32) → (Nat → Nat → Int64) → Int32 → Int64 → Int32 → Prop} {I : Nat → Nat → Int32} {J : Nat → Nat → Int64} {cn : Int32} {cm : Int64} {so : Int32} (h : wMall post I J cn cm so) : Met l yXM_all (.code yXM_all cXM_all 1 (some .int) :: lg_tbl) ({ frames := 0, cells := 0, slots := 0, locals := 0 } : Room) (va_Pc [.ref h0] (fxB (mW D h0 ad cI cL (I, J, cn, cm, so)) D vwCl (mTy cI cL))) (va_Qi (fun (r : Int32) (u : mS) => post r u.1 u.2.1 u.2.2.1 u.2.2.2.1 u.2.2.2.2) (fxC (mW D h0 ad cI cL)) A) 0 0 A := by
  refine fx_start (by decide +kernel) (Nat.le_of_ble_eq_true rfl) ?_
  intro p e s m below meth c ls hx hb hr hml hown hts hlocks hnm hB hl
  exact sMall_in ⟨hx, hb, hr, hml, hown, hts, hlocks, hB.2.1, hB.2.2, hD⟩ I J cn cm so h _ _ ls hB.1 va_S.rf hl
