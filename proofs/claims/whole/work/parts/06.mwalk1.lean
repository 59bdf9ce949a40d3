def wMisReplica (post : Int32 → (Nat → Nat → Int32) → (Nat → Nat → Int64) → Int32 → Int64 → Int32 → Prop) (I : Nat → Nat → Int32) (J : Nat → Nat → Int64) (cn : Int32) (cm : Int64) (so : Int32) (a1 : Int32) : Prop := ((a1 < 0 → (post 0 I J cn cm so)) ∧ (¬ a1 < 0 → ((3 < a1 → (post 0 I J cn cm so)) ∧ (¬ 3 < a1 → (post 1 I J cn cm so)))))
set_option maxRecDepth 100000 in
set_option maxHeartbeats 4000000 in
theorem sMisReplica_in {p : Program} {l : Launch} {e : Env} {s : State} {m : MethodId} {args : Array Value} {below : List Frame} {meth : Method} {c : Code} {D : va_G} {A : Nat → Prop} {h0 : Nat} {ad : Nat → Nat} {cI cL : ClassId} {post : Int32 → (Nat → Nat → Int32) → (Nat → Nat → Int64) → Int32 → Int64 → Int32 → Prop} (C0 : mCx p s m args meth c D A h0 ad cI cL cXM_isReplica 1 (some .boolean)) : ∀ (I : Nat → Nat → Int32) (J : Nat → Nat → Int64) (cn : Int32) (cm : Int64) (so : Int32) (a1 : Int32), wMisReplica post I J cn cm so a1 → ∀ (H : Heap) (locs : List Loc) (ls : Array Slot), mW D h0 ad cI cL (I, J, cn, cm, so) H → va_S A s.heap H locs → lv_has ls 1 [(0, .int a1)] → W p l e ({ frames := 0, cells := 0, slots := 0, locals := 0 } : Room) s m args below meth c H locs 0 0 (MQ below (va_Qi (fun (r : Int32) (u : mS) => post r u.1 u.2.1 u.2.2.1 u.2.2.2.1 u.2.2.2.2) (fxC (mW D h0 ad cI cL)) A) args s 0 0 A) (F0 m 0 ls []) := by
  obtain ⟨hx, hb, hr, hml, hown, hts, hlocks, hK, hN, hD⟩ := id C0
  intro I J cn cm so a1 h H locs ls hP hS hl
  replace h : ((a1 < 0 → (post 0 I J cn cm so)) ∧ (¬ a1 < 0 → ((3 < a1 → (post 0 I J cn cm so)) ∧ (¬ 3 < a1 → (post 1 I J cn cm so))))) := h
  refine lv_iload_n hx hb dXM_isReplica_0 rfl (lv_at hl 0 rfl) ?_
  refine lv_if_lt (tgt := 13) hx hb dXM_isReplica_1 (by decide) (fun c1 => ?_) (fun c1 => ?_)
  · replace h := h.1 c1
    refine lv_iconst (v := 0) hx hb dXM_isReplica_13 (by decide) ?_
    exact W.zret hx hb hr rfl (fun t ht hW => ⟨⟨_, (I, J, cn, cm, so), rfl, h, by rw [fxC, ht]; exact hP⟩, hS.F ht⟩) hS.2.2 dXM_isReplica_14 hlocks
  · replace h := h.2 c1
    refine lv_iload_n hx hb dXM_isReplica_4 rfl (lv_at hl 0 rfl) ?_
    refine lv_iconst (v := 3) hx hb dXM_isReplica_5 (by decide) ?_
    refine lv_icmp_gt (tgt := 13) hx hb dXM_isReplica_6 (by decide) (fun c2 => ?_) (fun c2 => ?_)
    · replace h := h.1 c2
      refine lv_iconst (v := 0) hx hb dXM_isReplica_13 (by decide) ?_
      exact W.zret hx hb hr rfl (fun t ht hW => ⟨⟨_, (I, J, cn, cm, so), rfl, h, by rw [fxC, ht]; exact hP⟩, hS.F ht⟩) hS.2.2 dXM_isReplica_14 hlocks
    · replace h := h.2 c2
      refine lv_iconst (v := 1) hx hb dXM_isReplica_9 (by decide) ?_
      refine lv_goto (tgt := 14) hx hb dXM_isReplica_10 (by decide) ?_
      exact W.zret hx hb hr rfl (fun t ht hW => ⟨⟨_, (I, J, cn, cm, so), rfl, h, by rw [fxC, ht]; exact hP⟩, hS.F ht⟩) hS.2.2 dXM_isReplica_14 hlocks
set_option maxRecDepth 100000 in
set_option maxHeartbeats 4000000 in
theorem cMisReplica {l : Launch} {D : va_G} {A : Nat → Prop} {h0 : Nat} {ad : Nat → Nat} {cI cL : ClassId} (hD : mDs A h0 ad cI cL) {post : Int32 → (Nat → Nat → Int32) → (Nat → Nat → Int64) → Int32 → Int64 → Int32 → Prop} {I : Nat → Nat → Int32} {J : Nat → Nat → Int64} {cn : Int32} {cm : Int64} {so : Int32} {a1 : Int32} (h : wMisReplica post I J cn cm so a1) : Met l yXM_isReplica (.code yXM_isReplica cXM_isReplica 1 (some .boolean) :: lg_tbl) ({ frames := 0, cells := 0, slots := 0, locals := 0 } : Room) (va_Pc [.int a1] (fxB (mW D h0 ad cI cL (I, J, cn, cm, so)) D vwCl (mTy cI cL))) (va_Qi (fun (r : Int32) (u : mS) => post r u.1 u.2.1 u.2.2.1 u.2.2.2.1 u.2.2.2.2) (fxC (mW D h0 ad cI cL)) A) 0 0 A := by
  refine fx_start (by decide +kernel) (Nat.le_of_ble_eq_true rfl) ?_
  intro p e s m below meth c ls hx hb hr hml hown hts hlocks hnm hB hl
  exact sMisReplica_in ⟨hx, hb, hr, hml, hown, hts, hlocks, hB.2.1, hB.2.2, hD⟩ I J cn cm so a1 h _ _ ls hB.1 va_S.rf hl
def wMtaken (post : Int64 → (Nat → Nat → Int32) → (Nat → Nat → Int64) → Int32 → Int64 → Int32 → Prop) (I : Nat → Nat → Int32) (J : Nat → Nat → Int64) (cn : Int32) (cm : Int64) (so : Int32) (a1 : Int64) (a2 : Int64) : Prop := (post (((a1 ^^^ a2) * 1099511628211) ^^^ (hj_ushr ((a1 ^^^ a2) * 1099511628211) 29)) I J cn cm so)
set_option maxRecDepth 100000 in
set_option maxHeartbeats 4000000 in
theorem sMtaken_in {p : Program} {l : Launch} {e : Env} {s : State} {m : MethodId} {args : Array Value} {below : List Frame} {meth : Method} {c : Code} {D : va_G} {A : Nat → Prop} {h0 : Nat} {ad : Nat → Nat} {cI cL : ClassId} {post : Int64 → (Nat → Nat → Int32) → (Nat → Nat → Int64) → Int32 → Int64 → Int32 → Prop} (C0 : mCx p s m args meth c D A h0 ad cI cL cXM_taken 6 (some .long)) : ∀ (I : Nat → Nat → Int32) (J : Nat → Nat → Int64) (cn : Int32) (cm : Int64) (so : Int32) (a1 : Int64) (a2 : Int64), wMtaken post I J cn cm so a1 a2 → ∀ (H : Heap) (locs : List Loc) (ls : Array Slot), mW D h0 ad cI cL (I, J, cn, cm, so) H → va_S A s.heap H locs → lv_has ls 6 [(0, .long a1), (2, .long a2)] → W p l e ({ frames := 0, cells := 0, slots := 0, locals := 0 } : Room) s m args below meth c H locs 0 0 (MQ below (va_Ql (fun (r : Int64) (u : mS) => post r u.1 u.2.1 u.2.2.1 u.2.2.2.1 u.2.2.2.2) (fxC (mW D h0 ad cI cL)) A) args s 0 0 A) (F0 m 0 ls []) := by
  obtain ⟨hx, hb, hr, hml, hown, hts, hlocks, hK, hN, hD⟩ := id C0
  intro I J cn cm so a1 a2 h H locs ls hP hS hl
  replace h : (post (((a1 ^^^ a2) * 1099511628211) ^^^ (hj_ushr ((a1 ^^^ a2) * 1099511628211) 29)) I J cn cm so) := h
  refine lv_lload_n hx hb dXM_taken_0 rfl (lv_at hl 0 rfl) ?_
  refine lv_lload_n hx hb dXM_taken_1 rfl (lv_at hl 1 rfl) ?_
  refine lv_lxor hx hb dXM_taken_2 ?_
  refine lv_ldc2 (v := 1099511628211) hx hb hown (hts (.constantLong RXM 68 1099511628211) (fx_m (by decide +kernel))) dXM_taken_3 ?_
  refine lv_lmul hx hb dXM_taken_6 ?_
  refine lv_lstore (lv' := [(4, .long ((a1 ^^^ a2) * 1099511628211)), (0, .long a1), (2, .long a2)]) hx hb dXM_taken_7 hl (by decide) rfl (fun ls hl => ?_)
  refine lv_lload hx hb dXM_taken_9 (lv_at hl 0 rfl) ?_
  refine lv_lload hx hb dXM_taken_11 (lv_at hl 0 rfl) ?_
  refine lv_bipush (v := 29) hx hb dXM_taken_13 (by decide) ?_
  refine lv_lushr (v := hj_ushr ((a1 ^^^ a2) * 1099511628211) 29) hx hb dXM_taken_15 rfl ?_
  refine lv_lxor hx hb dXM_taken_16 ?_
  exact W.lret hx hb hr (fun t ht hW => ⟨⟨_, (I, J, cn, cm, so), rfl, h, by rw [fxC, ht]; exact hP⟩, hS.F ht⟩) hS.2.2 dXM_taken_17 hlocks
set_option maxRecDepth 100000 in
set_option maxHeartbeats 4000000 in
theorem cMtaken {l : Launch} {D : va_G} {A : Nat → Prop} {h0 : Nat} {ad : Nat → Nat} {cI cL : ClassId} (hD : mDs A h0 ad cI cL) {post : Int64 → (Nat → Nat → Int32) → (Nat → Nat → Int64) → Int32 → Int64 → Int32 → Prop} {I : Nat → Nat → Int32} {J : Nat → Nat → Int64} {cn : Int32} {cm : Int64} {so : Int32} {a1 : Int64} {a2 : Int64} (h : wMtaken post I J cn cm so a1 a2) : Met l yXM_taken (.code yXM_taken cXM_taken 6 (some .long) :: lg_tbl) ({ frames := 0, cells := 0, slots := 0, locals := 0 } : Room) (va_Pc [.long a1, .long a2] (fxB (mW D h0 ad cI cL (I, J, cn, cm, so)) D vwCl (mTy cI cL))) (va_Ql (fun (r : Int64) (u : mS) => post r u.1 u.2.1 u.2.2.1 u.2.2.2.1 u.2.2.2.2) (fxC (mW D h0 ad cI cL)) A) 0 0 A := by
  refine fx_start (by decide +kernel) (Nat.le_of_ble_eq_true rfl) ?_
  intro p e s m below meth c ls hx hb hr hml hown hts hlocks hnm hB hl
  exact sMtaken_in ⟨hx, hb, hr, hml, hown, hts, hlocks, hB.2.1, hB.2.2, hD⟩ I J cn cm so a1 a2 h _ _ ls hB.1 va_S.rf hl
noncomputable def wMhashOfN_32 (post : Int64 → (Nat → Nat → Int32) → (Nat → Nat → Int64) → Int32 → Int64 → Int32 → Prop) (n : Nat) : (Nat → Nat → Int32) → (Nat → Nat → Int64) → Int32 → Int64 → Int32 → Int64 → Int32 → Prop := Nat.rec (motive := fun _ => (Nat → Nat → Int32) → (Nat → Nat → Int64) → Int32 → Int64 → Int32 → Int64 → Int32 → Prop) (fun _ _ _ _ _ _ _ => False) (fun _ K32 I J cn cm so v2 v4 => (vp_in 4 5 ∧ (((I 9 (Int32.toNatClampNeg 4)) ≤ v4 → (post v2 I J cn cm so)) ∧ (¬ (I 9 (Int32.toNatClampNeg 4)) ≤ v4 → (vp_in v4 4 ∧ (wMtaken (fun r7 I_7 J_7 cn_7 cm_7 so_7 => (K32 I_7 J_7 cn_7 cm_7 so_7 r7 (v4 + 1))) I J cn cm so v2 (J 7 (Int32.toNatClampNeg v4)))))))) n
noncomputable def wMhashOfN_7 (post : Int64 → (Nat → Nat → Int32) → (Nat → Nat → Int64) → Int32 → Int64 → Int32 → Prop) (n : Nat) : (Nat → Nat → Int32) → (Nat → Nat → Int64) → Int32 → Int64 → Int32 → Int64 → Int32 → Prop := Nat.rec (motive := fun _ => (Nat → Nat → Int32) → (Nat → Nat → Int64) → Int32 → Int64 → Int32 → Int64 → Int32 → Prop) (fun _ _ _ _ _ _ _ => False) (fun _ K7 I J cn cm so v2 v4 => ((5 ≤ v4 → (∃ k, wMhashOfN_32 post  k I J cn cm so v2 0)) ∧ (¬ 5 ≤ v4 → (vp_in v4 5 ∧ (wMtaken (fun r3 I_3 J_3 cn_3 cm_3 so_3 => (K7 I_3 J_3 cn_3 cm_3 so_3 r3 (v4 + 1))) I J cn cm so v2 (Int32.toInt64 (I 9 (Int32.toNatClampNeg v4)))))))) n
def wMhashOfN (post : Int64 → (Nat → Nat → Int32) → (Nat → Nat → Int64) → Int32 → Int64 → Int32 → Prop) (I : Nat → Nat → Int32) (J : Nat → Nat → Int64) (cn : Int32) (cm : Int64) (so : Int32) : Prop := (∃ k, wMhashOfN_7 post  k I J cn cm so 6148914691236517205 0)
set_option maxRecDepth 100000 in
set_option maxHeartbeats 4000000 in
theorem sMhashOfN_32 {p : Program} {l : Launch} {e : Env} {s : State} {m : MethodId} {args : Array Value} {below : List Frame} {meth : Method} {c : Code} {D : va_G} {A : Nat → Prop} {h0 : Nat} {ad : Nat → Nat} {cI cL : ClassId} {post : Int64 → (Nat → Nat → Int32) → (Nat → Nat → Int64) → Int32 → Int64 → Int32 → Prop} (C0 : mCx p s m args meth c D A h0 ad cI cL cXM_hashOf 5 (some .long)) : ∀ (n : Nat) (I : Nat → Nat → Int32) (J : Nat → Nat → Int64) (cn : Int32) (cm : Int64) (so : Int32) (v2 : Int64) (v4 : Int32), wMhashOfN_32 post  n I J cn cm so v2 v4 → ∀ (H : Heap) (locs : List Loc) (ls : Array Slot), mW D h0 ad cI cL (I, J, cn, cm, so) H → va_S A s.heap H locs → lv_has ls 5 [(0, .ref (ad 16)), (1, .ref (ad 17)), (2, .long v2), (4, .int v4)] → W p l e ({ frames := 1, cells := 0, slots := 0, locals := 25 } : Room) s m args below meth c H locs 0 0 (MQ below (va_Ql (fun (r : Int64) (u : mS) => post r u.1 u.2.1 u.2.2.1 u.2.2.2.1 u.2.2.2.2) (fxC (mW D h0 ad cI cL)) A) args s 0 0 A) (F0 m 32 ls []) := by
  obtain ⟨hx, hb, hr, hml, hown, hts, hlocks, hK, hN, hD⟩ := id C0
  intro n
  induction n with
  | zero => exact fun _ _ _ _ _ _ _ h => h.elim
  | succ n hK32 =>
    intro I J cn cm so v2 v4 h H locs ls hP hS hl
    replace h : (vp_in 4 5 ∧ (((I 9 (Int32.toNatClampNeg 4)) ≤ v4 → (post v2 I J cn cm so)) ∧ (¬ (I 9 (Int32.toNatClampNeg 4)) ≤ v4 → (vp_in v4 4 ∧ (wMtaken (fun r7 I_7 J_7 cn_7 cm_7 so_7 => ((wMhashOfN_32 post  n) I_7 J_7 cn_7 cm_7 so_7 r7 (v4 + 1))) I J cn cm so v2 (J 7 (Int32.toNatClampNeg v4))))))) := h
    refine lv_iload hx hb dXM_hashOf_32 (lv_at hl 3 rfl) ?_
    refine lv_aload_n hx hb dXM_hashOf_34 rfl (lv_at hl 0 rfl) ?_
    refine lv_iconst (v := 4) hx hb dXM_hashOf_35 (by decide) ?_
    obtain ⟨h4, h⟩ := h
    refine ma_16 hx hb hK hP h4 dXM_hashOf_36 ?_
    refine lv_icmp_ge (tgt := 55) hx hb dXM_hashOf_37 (by decide) (fun c5 => ?_) (fun c5 => ?_)
    · replace h := h.1 c5
      refine lv_lload_n hx hb dXM_hashOf_55 rfl (lv_at hl 2 rfl) ?_
      exact W.lret hx hb hr (fun t ht hW => ⟨⟨_, (I, J, cn, cm, so), rfl, h, by rw [fxC, ht]; exact hP⟩, hS.F ht⟩) hS.2.2 dXM_hashOf_56 hlocks
    · replace h := h.2 c5
      refine lv_lload_n hx hb dXM_hashOf_40 rfl (lv_at hl 2 rfl) ?_
      refine lv_aload_n hx hb dXM_hashOf_41 rfl (lv_at hl 1 rfl) ?_
      refine lv_iload hx hb dXM_hashOf_42 (lv_at hl 3 rfl) ?_
      obtain ⟨h6, h⟩ := h
      refine ma_17 hx hb hK hP h6 dXM_hashOf_44 ?_
      refine va_calll (va_runS (As := [.long v2, .long (J 7 (Int32.toNatClampNeg v4))]) (rest := []) ⟨hx, hb, hml, hown, hts⟩ (cMtaken hD h) (fx_cwS 2 hts gw_M_72 hdXM_taken ⟨Nat.le_of_ble_eq_true rfl, Nat.le_of_ble_eq_true rfl⟩) (fx_preS hP hK hN) rfl rfl hl.1 rfl (lv_room (Nat.le_of_ble_eq_true rfl)) dXM_hashOf_45 ⟨Nat.le_of_ble_eq_true rfl, Nat.le_of_ble_eq_true rfl⟩) hS (fun _ _ q => q) (fun _ q => q) (fun r7 u t H locs ht hvm h hP hz hk hS => ?_)
      rw [fxC, ht] at hP
      obtain ⟨I_7, J_7, cn_7, cm_7, so_7⟩ := u
      dsimp only at h
      refine lv_lstore_n (lv' := [(2, .long r7), (0, .ref (ad 16)), (1, .ref (ad 17)), (4, .int v4)]) hx hb dXM_hashOf_48 rfl hl (by decide) rfl (fun ls hl => ?_)
      refine lv_iinc (v := v4 + 1) (lv' := [(4, .int (v4 + 1)), (2, .long r7), (0, .ref (ad 16)), (1, .ref (ad 17))]) hx hb dXM_hashOf_49 hl (k := 3) rfl rfl (by decide) rfl (fun ls hl => ?_)
      refine lv_goto (tgt := 32) hx hb dXM_hashOf_52 (by decide) ?_
      exact hK32 I_7 J_7 cn_7 cm_7 so_7 r7 (v4 + 1) h H locs ls hP hS (lv_sub hl [2, 3, 1, 0] rfl)
set_option maxRecDepth 100000 in
set_option maxHeartbeats 4000000 in
theorem sMhashOfN_7 {p : Program} {l : Launch} {e : Env} {s : State} {m : MethodId} {args : Array Value} {below : List Frame} {meth : Method} {c : Code} {D : va_G} {A : Nat → Prop} {h0 : Nat} {ad : Nat → Nat} {cI cL : ClassId} {post : Int64 → (Nat → Nat → Int32) → (Nat → Nat → Int64) → Int32 → Int64 → Int32 → Prop} (C0 : mCx p s m args meth c D A h0 ad cI cL cXM_hashOf 5 (some .long)) : ∀ (n : Nat) (I : Nat → Nat → Int32) (J : Nat → Nat → Int64) (cn : Int32) (cm : Int64) (so : Int32) (v2 : Int64) (v4 : Int32), wMhashOfN_7 post  n I J cn cm so v2 v4 → ∀ (H : Heap) (locs : List Loc) (ls : Array Slot), mW D h0 ad cI cL (I, J, cn, cm, so) H → va_S A s.heap H locs → lv_has ls 5 [(0, .ref (ad 16)), (1, .ref (ad 17)), (2, .long v2), (4, .int v4)] → W p l e ({ frames := 1, cells := 0, slots := 0, locals := 25 } : Room) s m args below meth c H locs 0 0 (MQ below (va_Ql (fun (r : Int64) (u : mS) => post r u.1 u.2.1 u.2.2.1 u.2.2.2.1 u.2.2.2.2) (fxC (mW D h0 ad cI cL)) A) args s 0 0 A) (F0 m 7 ls []) := by
  obtain ⟨hx, hb, hr, hml, hown, hts, hlocks, hK, hN, hD⟩ := id C0
  intro n
  induction n with
  | zero => exact fun _ _ _ _ _ _ _ h => h.elim
  | succ n hK7 =>
    intro I J cn cm so v2 v4 h H locs ls hP hS hl
    replace h : ((5 ≤ v4 → (∃ k, wMhashOfN_32 post  k I J cn cm so v2 0)) ∧ (¬ 5 ≤ v4 → (vp_in v4 5 ∧ (wMtaken (fun r3 I_3 J_3 cn_3 cm_3 so_3 => ((wMhashOfN_7 post  n) I_3 J_3 cn_3 cm_3 so_3 r3 (v4 + 1))) I J cn cm so v2 (Int32.toInt64 (I 9 (Int32.toNatClampNeg v4))))))) := h
    refine lv_iload hx hb dXM_hashOf_7 (lv_at hl 3 rfl) ?_
    refine lv_iconst (v := 5) hx hb dXM_hashOf_9 (by decide) ?_
    refine lv_icmp_ge (tgt := 29) hx hb dXM_hashOf_10 (by decide) (fun c1 => ?_) (fun c1 => ?_)
    · replace h := h.1 c1
      refine lv_iconst (v := 0) hx hb dXM_hashOf_29 (by decide) ?_
      refine lv_istore (lv' := [(4, .int 0), (0, .ref (ad 16)), (1, .ref (ad 17)), (2, .long v2)]) hx hb dXM_hashOf_30 hl (by decide) rfl (fun ls hl => ?_)
      obtain ⟨k, h⟩ := h
      exact sMhashOfN_32  C0  k I J cn cm so v2 0 h H locs ls hP hS (lv_sub hl [1, 2, 3, 0] rfl)
    · replace h := h.2 c1
      refine lv_lload_n hx hb dXM_hashOf_13 rfl (lv_at hl 2 rfl) ?_
      refine lv_aload_n hx hb dXM_hashOf_14 rfl (lv_at hl 0 rfl) ?_
      refine lv_iload hx hb dXM_hashOf_15 (lv_at hl 3 rfl) ?_
      obtain ⟨h2, h⟩ := h
      refine ma_16 hx hb hK hP h2 dXM_hashOf_17 ?_
      refine lv_i2l (v := Int32.toInt64 (I 9 (Int32.toNatClampNeg v4))) hx hb dXM_hashOf_18 rfl ?_
      refine va_calll (va_runS (As := [.long v2, .long (Int32.toInt64 (I 9 (Int32.toNatClampNeg v4)))]) (rest := []) ⟨hx, hb, hml, hown, hts⟩ (cMtaken hD h) (fx_cwS 2 hts gw_M_72 hdXM_taken ⟨Nat.le_of_ble_eq_true rfl, Nat.le_of_ble_eq_true rfl⟩) (fx_preS hP hK hN) rfl rfl hl.1 rfl (lv_room (Nat.le_of_ble_eq_true rfl)) dXM_hashOf_19 ⟨Nat.le_of_ble_eq_true rfl, Nat.le_of_ble_eq_true rfl⟩) hS (fun _ _ q => q) (fun _ q => q) (fun r3 u t H locs ht hvm h hP hz hk hS => ?_)
      rw [fxC, ht] at hP
      obtain ⟨I_3, J_3, cn_3, cm_3, so_3⟩ := u
      dsimp only at h
      refine lv_lstore_n (lv' := [(2, .long r3), (0, .ref (ad 16)), (1, .ref (ad 17)), (4, .int v4)]) hx hb dXM_hashOf_22 rfl hl (by decide) rfl (fun ls hl => ?_)
      refine lv_iinc (v := v4 + 1) (lv' := [(4, .int (v4 + 1)), (2, .long r3), (0, .ref (ad 16)), (1, .ref (ad 17))]) hx hb dXM_hashOf_23 hl (k := 3) rfl rfl (by decide) rfl (fun ls hl => ?_)
      refine lv_goto (tgt := 7) hx hb dXM_hashOf_26 (by decide) ?_
      exact hK7 I_3 J_3 cn_3 cm_3 so_3 r3 (v4 + 1) h H locs ls hP hS (lv_sub hl [2, 3, 1, 0] rfl)
set_option maxRecDepth 100000 in
set_option maxHeartbeats 4000000 in
theorem sMhashOfN_in {p : Program} {l : Launch} {e : Env} {s : State} {m : MethodId} {args : Array Value} {below : List Frame} {meth : Method} {c : Code} {D : va_G} {A : Nat → Prop} {h0 : Nat} {ad : Nat → Nat} {cI cL : ClassId} {post : Int64 → (Nat → Nat → Int32) → (Nat → Nat → Int64) → Int32 → Int64 → Int32 → Prop} (C0 : mCx p s m args meth c D A h0 ad cI cL cXM_hashOf 5 (some .long)) : ∀ (I : Nat → Nat → Int32) (J : Nat → Nat → Int64) (cn : Int32) (cm : Int64) (so : Int32), wMhashOfN post I J cn cm so → ∀ (H : Heap) (locs : List Loc) (ls : Array Slot), mW D h0 ad cI cL (I, J, cn, cm, so) H → va_S A s.heap H locs → lv_has ls 5 [(0, .ref (ad 16)), (1, .ref (ad 17))] → W p l e ({ frames := 1, cells := 0, slots := 0, locals := 25 } : Room) s m args below meth c H locs 0 0 (MQ below (va_Ql (fun (r : Int64) (u : mS) => post r u.1 u.2.1 u.2.2.1 u.2.2.2.1 u.2.2.2.2) (fxC (mW D h0 ad cI cL)) A) args s 0 0 A) (F0 m 0 ls []) := by
  obtain ⟨hx, hb, hr, hml, hown, hts, hlocks, hK, hN, hD⟩ := id C0
  intro I J cn cm so h H locs ls hP hS hl
  replace h : (∃ k, wMhashOfN_7 post  k I J cn cm so 6148914691236517205 0) := h
  refine lv_ldc2 (v := 6148914691236517205) hx hb hown (hts (.constantLong RXM 70 6148914691236517205) (fx_m (by decide +kernel))) dXM_hashOf_0 ?_
  refine lv_lstore_n (lv' := [(2, .long 6148914691236517205), (0, .ref (ad 16)), (1, .ref (ad 17))]) hx hb dXM_hashOf_3 rfl hl (by decide) rfl (fun ls hl => ?_)
  refine lv_iconst (v := 0) hx hb dXM_hashOf_4 (by decide) ?_
  refine lv_istore (lv' := [(4, .int 0), (2, .long 6148914691236517205), (0, .ref (ad 16)), (1, .ref (ad 17))]) hx hb dXM_hashOf_5 hl (by decide) rfl (fun ls hl => ?_)
  obtain ⟨k, h⟩ := h
  exact sMhashOfN_7  C0  k I J cn cm so 6148914691236517205 0 h H locs ls hP hS (lv_sub hl [2, 3, 1, 0] rfl)
set_option maxRecDepth 100000 in
set_option maxHeartbeats 4000000 in
theorem cMhashOfN {l : Launch} {D : va_G} {A : Nat → Prop} {h0 : Nat} {ad : Nat → Nat} {cI cL : ClassId} (hD : mDs A h0 ad cI cL) {post : Int64 → (Nat → Nat → Int32) → (Nat → Nat → Int64) → Int32 → Int64 → Int32 → Prop} {I : Nat → Nat → Int32} {J : Nat → Nat → Int64} {cn : Int32} {cm : Int64} {so : Int32} (h : wMhashOfN post I J cn cm so) : Met l yXM_hashOf (.code yXM_hashOf cXM_hashOf 5 (some .long) :: lg_tbl) ({ frames := 1, cells := 0, slots := 0, locals := 25 } : Room) (va_Pc [.ref (ad 16), .ref (ad 17)] (fxB (mW D h0 ad cI cL (I, J, cn, cm, so)) D vwCl (mTy cI cL))) (va_Ql (fun (r : Int64) (u : mS) => post r u.1 u.2.1 u.2.2.1 u.2.2.2.1 u.2.2.2.2) (fxC (mW D h0 ad cI cL)) A) 0 0 A := by
  refine fx_start (by decide +kernel) (Nat.le_of_ble_eq_true rfl) ?_
  intro p e s m below meth c ls hx hb hr hml hown hts hlocks hnm hB hl
  exact sMhashOfN_in ⟨hx, hb, hr, hml, hown, hts, hlocks, hB.2.1, hB.2.2, hD⟩ I J cn cm so h _ _ ls hB.1 va_S.rf hl
noncomputable def wMhashOfD_32 (post : Int64 → (Nat → Nat → Int32) → (Nat → Nat → Int64) → Int32 → Int64 → Int32 → Prop) (n : Nat) : (Nat → Nat → Int32) → (Nat → Nat → Int64) → Int32 → Int64 → Int32 → Int64 → Int32 → Prop := Nat.rec (motive := fun _ => (Nat → Nat → Int32) → (Nat → Nat → Int64) → Int32 → Int64 → Int32 → Int64 → Int32 → Prop) (fun _ _ _ _ _ _ _ => False) (fun _ K32 I J cn cm so v2 v4 => (vp_in 4 5 ∧ (((I 8 (Int32.toNatClampNeg 4)) ≤ v4 → (post v2 I J cn cm so)) ∧ (¬ (I 8 (Int32.toNatClampNeg 4)) ≤ v4 → (vp_in v4 4 ∧ (wMtaken (fun r7 I_7 J_7 cn_7 cm_7 so_7 => (K32 I_7 J_7 cn_7 cm_7 so_7 r7 (v4 + 1))) I J cn cm so v2 (J 6 (Int32.toNatClampNeg v4)))))))) n
noncomputable def wMhashOfD_7 (post : Int64 → (Nat → Nat → Int32) → (Nat → Nat → Int64) → Int32 → Int64 → Int32 → Prop) (n : Nat) : (Nat → Nat → Int32) → (Nat → Nat → Int64) → Int32 → Int64 → Int32 → Int64 → Int32 → Prop := Nat.rec (motive := fun _ => (Nat → Nat → Int32) → (Nat → Nat → Int64) → Int32 → Int64 → Int32 → Int64 → Int32 → Prop) (fun _ _ _ _ _ _ _ => False) (fun _ K7 I J cn cm so v2 v4 => ((5 ≤ v4 → (∃ k, wMhashOfD_32 post  k I J cn cm so v2 0)) ∧ (¬ 5 ≤ v4 → (vp_in v4 5 ∧ (wMtaken (fun r3 I_3 J_3 cn_3 cm_3 so_3 => (K7 I_3 J_3 cn_3 cm_3 so_3 r3 (v4 + 1))) I J cn cm so v2 (Int32.toInt64 (I 8 (Int32.toNatClampNeg v4)))))))) n
def wMhashOfD (post : Int64 → (Nat → Nat → Int32) → (Nat → Nat → Int64) → Int32 → Int64 → Int32 → Prop) (I : Nat → Nat → Int32) (J : Nat → Nat → Int64) (cn : Int32) (cm : Int64) (so : Int32) : Prop := (∃ k, wMhashOfD_7 post  k I J cn cm so 6148914691236517205 0)
set_option maxRecDepth 100000 in
set_option maxHeartbeats 4000000 in
theorem sMhashOfD_32 {p : Program} {l : Launch} {e : Env} {s : State} {m : MethodId} {args : Array Value} {below : List Frame} {meth : Method} {c : Code} {D : va_G} {A : Nat → Prop} {h0 : Nat} {ad : Nat → Nat} {cI cL : ClassId} {post : Int64 → (Nat → Nat → Int32) → (Nat → Nat → Int64) → Int32 → Int64 → Int32 → Prop} (C0 : mCx p s m args meth c D A h0 ad cI cL cXM_hashOf 5 (some .long)) : ∀ (n : Nat) (I : Nat → Nat → Int32) (J : Nat → Nat → Int64) (cn : Int32) (cm : Int64) (so : Int32) (v2 : Int64) (v4 : Int32), wMhashOfD_32 post  n I J cn cm so v2 v4 → ∀ (H : Heap) (locs : List Loc) (ls : Array Slot), mW D h0 ad cI cL (I, J, cn, cm, so) H → va_S A s.heap H locs → lv_has ls 5 [(0, .ref (ad 14)), (1, .ref (ad 15)), (2, .long v2), (4, .int v4)] → W p l e ({ frames := 1, cells := 0, slots := 0, locals := 25 } : Room) s m args below meth c H locs 0 0 (MQ below (va_Ql (fun (r : Int64) (u : mS) => post r u.1 u.2.1 u.2.2.1 u.2.2.2.1 u.2.2.2.2) (fxC (mW D h0 ad cI cL)) A) args s 0 0 A) (F0 m 32 ls []) := by
  obtain ⟨hx, hb, hr, hml, hown, hts, hlocks, hK, hN, hD⟩ := id C0
  intro n
  induction n with
  | zero => exact fun _ _ _ _ _ _ _ h => h.elim
  | succ n hK32 =>
    intro I J cn cm so v2 v4 h H locs ls hP hS hl
    replace h : (vp_in 4 5 ∧ (((I 8 (Int32.toNatClampNeg 4)) ≤ v4 → (post v2 I J cn cm so)) ∧ (¬ (I 8 (Int32.toNatClampNeg 4)) ≤ v4 → (vp_in v4 4 ∧ (wMtaken (fun r7 I_7 J_7 cn_7 cm_7 so_7 => ((wMhashOfD_32 post  n) I_7 J_7 cn_7 cm_7 so_7 r7 (v4 + 1))) I J cn cm so v2 (J 6 (Int32.toNatClampNeg v4))))))) := h
    refine lv_iload hx hb dXM_hashOf_32 (lv_at hl 3 rfl) ?_
    refine lv_aload_n hx hb dXM_hashOf_34 rfl (lv_at hl 0 rfl) ?_
    refine lv_iconst (v := 4) hx hb dXM_hashOf_35 (by decide) ?_
    obtain ⟨h4, h⟩ := h
    refine ma_14 hx hb hK hP h4 dXM_hashOf_36 ?_
    refine lv_icmp_ge (tgt := 55) hx hb dXM_hashOf_37 (by decide) (fun c5 => ?_) (fun c5 => ?_)
    · replace h := h.1 c5
      refine lv_lload_n hx hb dXM_hashOf_55 rfl (lv_at hl 2 rfl) ?_
      exact W.lret hx hb hr (fun t ht hW => ⟨⟨_, (I, J, cn, cm, so), rfl, h, by rw [fxC, ht]; exact hP⟩, hS.F ht⟩) hS.2.2 dXM_hashOf_56 hlocks
    · replace h := h.2 c5
      refine lv_lload_n hx hb dXM_hashOf_40 rfl (lv_at hl 2 rfl) ?_
      refine lv_aload_n hx hb dXM_hashOf_41 rfl (lv_at hl 1 rfl) ?_
      refine lv_iload hx hb dXM_hashOf_42 (lv_at hl 3 rfl) ?_
      obtain ⟨h6, h⟩ := h
      refine ma_15 hx hb hK hP h6 dXM_hashOf_44 ?_
      refine va_calll (va_runS (As := [.long v2, .long (J 6 (Int32.toNatClampNeg v4))]) (rest := []) ⟨hx, hb, hml, hown, hts⟩ (cMtaken hD h) (fx_cwS 2 hts gw_M_72 hdXM_taken ⟨Nat.le_of_ble_eq_true rfl, Nat.le_of_ble_eq_true rfl⟩) (fx_preS hP hK hN) rfl rfl hl.1 rfl (lv_room (Nat.le_of_ble_eq_true rfl)) dXM_hashOf_45 ⟨Nat.le_of_ble_eq_true rfl, Nat.le_of_ble_eq_true rfl⟩) hS (fun _ _ q => q) (fun _ q => q) (fun r7 u t H locs ht hvm h hP hz hk hS => ?_)
      rw [fxC, ht] at hP
      obtain ⟨I_7, J_7, cn_7, cm_7, so_7⟩ := u
      dsimp only at h
      refine lv_lstore_n (lv' := [(2, .long r7), (0, .ref (ad 14)), (1, .ref (ad 15)), (4, .int v4)]) hx hb dXM_hashOf_48 rfl hl (by decide) rfl (fun ls hl => ?_)
      refine lv_iinc (v := v4 + 1) (lv' := [(4, .int (v4 + 1)), (2, .long r7), (0, .ref (ad 14)), (1, .ref (ad 15))]) hx hb dXM_hashOf_49 hl (k := 3) rfl rfl (by decide) rfl (fun ls hl => ?_)
      refine lv_goto (tgt := 32) hx hb dXM_hashOf_52 (by decide) ?_
      exact hK32 I_7 J_7 cn_7 cm_7 so_7 r7 (v4 + 1) h H locs ls hP hS (lv_sub hl [2, 3, 1, 0] rfl)
set_option maxRecDepth 100000 in
set_option maxHeartbeats 4000000 in
theorem sMhashOfD_7 {p : Program} {l : Launch} {e : Env} {s : State} {m : MethodId} {args : Array Value} {below : List Frame} {meth : Method} {c : Code} {D : va_G} {A : Nat → Prop} {h0 : Nat} {ad : Nat → Nat} {cI cL : ClassId} {post : Int64 → (Nat → Nat → Int32) → (Nat → Nat → Int64) → Int32 → Int64 → Int32 → Prop} (C0 : mCx p s m args meth c D A h0 ad cI cL cXM_hashOf 5 (some .long)) : ∀ (n : Nat) (I : Nat → Nat → Int32) (J : Nat → Nat → Int64) (cn : Int32) (cm : Int64) (so : Int32) (v2 : Int64) (v4 : Int32), wMhashOfD_7 post  n I J cn cm so v2 v4 → ∀ (H : Heap) (locs : List Loc) (ls : Array Slot), mW D h0 ad cI cL (I, J, cn, cm, so) H → va_S A s.heap H locs → lv_has ls 5 [(0, .ref (ad 14)), (1, .ref (ad 15)), (2, .long v2), (4, .int v4)] → W p l e ({ frames := 1, cells := 0, slots := 0, locals := 25 } : Room) s m args below meth c H locs 0 0 (MQ below (va_Ql (fun (r : Int64) (u : mS) => post r u.1 u.2.1 u.2.2.1 u.2.2.2.1 u.2.2.2.2) (fxC (mW D h0 ad cI cL)) A) args s 0 0 A) (F0 m 7 ls []) := by
  obtain ⟨hx, hb, hr, hml, hown, hts, hlocks, hK, hN, hD⟩ := id C0
  intro n
  induction n with
  | zero => exact fun _ _ _ _ _ _ _ h => h.elim
  | succ n hK7 =>
    intro I J cn cm so v2 v4 h H locs ls hP hS hl
    replace h : ((5 ≤ v4 → (∃ k, wMhashOfD_32 post  k I J cn cm so v2 0)) ∧ (¬ 5 ≤ v4 → (vp_in v4 5 ∧ (wMtaken (fun r3 I_3 J_3 cn_3 cm_3 so_3 => ((wMhashOfD_7 post  n) I_3 J_3 cn_3 cm_3 so_3 r3 (v4 + 1))) I J cn cm so v2 (Int32.toInt64 (I 8 (Int32.toNatClampNeg v4))))))) := h
    refine lv_iload hx hb dXM_hashOf_7 (lv_at hl 3 rfl) ?_
    refine lv_iconst (v := 5) hx hb dXM_hashOf_9 (by decide) ?_
    refine lv_icmp_ge (tgt := 29) hx hb dXM_hashOf_10 (by decide) (fun c1 => ?_) (fun c1 => ?_)
    · replace h := h.1 c1
      refine lv_iconst (v := 0) hx hb dXM_hashOf_29 (by decide) ?_
      refine lv_istore (lv' := [(4, .int 0), (0, .ref (ad 14)), (1, .ref (ad 15)), (2, .long v2)]) hx hb dXM_hashOf_30 hl (by decide) rfl (fun ls hl => ?_)
      obtain ⟨k, h⟩ := h
      exact sMhashOfD_32  C0  k I J cn cm so v2 0 h H locs ls hP hS (lv_sub hl [1, 2, 3, 0] rfl)
    · replace h := h.2 c1
      refine lv_lload_n hx hb dXM_hashOf_13 rfl (lv_at hl 2 rfl) ?_
      refine lv_aload_n hx hb dXM_hashOf_14 rfl (lv_at hl 0 rfl) ?_
      refine lv_iload hx hb dXM_hashOf_15 (lv_at hl 3 rfl) ?_
      obtain ⟨h2, h⟩ := h
      refine ma_14 hx hb hK hP h2 dXM_hashOf_17 ?_
      refine lv_i2l (v := Int32.toInt64 (I 8 (Int32.toNatClampNeg v4))) hx hb dXM_hashOf_18 rfl ?_
      refine va_calll (va_runS (As := [.long v2, .long (Int32.toInt64 (I 8 (Int32.toNatClampNeg v4)))]) (rest := []) ⟨hx, hb, hml, hown, hts⟩ (cMtaken hD h) (fx_cwS 2 hts gw_M_72 hdXM_taken ⟨Nat.le_of_ble_eq_true rfl, Nat.le_of_ble_eq_true rfl⟩) (fx_preS hP hK hN) rfl rfl hl.1 rfl (lv_room (Nat.le_of_ble_eq_true rfl)) dXM_hashOf_19 ⟨Nat.le_of_ble_eq_true rfl, Nat.le_of_ble_eq_true rfl⟩) hS (fun _ _ q => q) (fun _ q => q) (fun r3 u t H locs ht hvm h hP hz hk hS => ?_)
      rw [fxC, ht] at hP
      obtain ⟨I_3, J_3, cn_3, cm_3, so_3⟩ := u
      dsimp only at h
      refine lv_lstore_n (lv' := [(2, .long r3), (0, .ref (ad 14)), (1, .ref (ad 15)), (4, .int v4)]) hx hb dXM_hashOf_22 rfl hl (by decide) rfl (fun ls hl => ?_)
      refine lv_iinc (v := v4 + 1) (lv' := [(4, .int (v4 + 1)), (2, .long r3), (0, .ref (ad 14)), (1, .ref (ad 15))]) hx hb dXM_hashOf_23 hl (k := 3) rfl rfl (by decide) rfl (fun ls hl => ?_)
      refine lv_goto (tgt := 7) hx hb dXM_hashOf_26 (by decide) ?_
      exact hK7 I_3 J_3 cn_3 cm_3 so_3 r3 (v4 + 1) h H locs ls hP hS (lv_sub hl [2, 3, 1, 0] rfl)
set_option maxRecDepth 100000 in
set_option maxHeartbeats 4000000 in
theorem sMhashOfD_in {p : Program} {l : Launch} {e : Env} {s : State} {m : MethodId} {args : Array Value} {below : List Frame} {meth : Method} {c : Code} {D : va_G} {A : Nat → Prop} {h0 : Nat} {ad : Nat → Nat} {cI cL : ClassId} {post : Int64 → (Nat → Nat → Int32) → (Nat → Nat → Int64) → Int32 → Int64 → Int32 → Prop} (C0 : mCx p s m args meth c D A h0 ad cI cL cXM_hashOf 5 (some .long)) : ∀ (I : Nat → Nat → Int32) (J : Nat → Nat → Int64) (cn : Int32) (cm : Int64) (so : Int32), wMhashOfD post I J cn cm so → ∀ (H : Heap) (locs : List Loc) (ls : Array Slot), mW D h0 ad cI cL (I, J, cn, cm, so) H → va_S A s.heap H locs → lv_has ls 5 [(0, .ref (ad 14)), (1, .ref (ad 15))] → W p l e ({ frames := 1, cells := 0, slots := 0, locals := 25 } : Room) s m args below meth c H locs 0 0 (MQ below (va_Ql (fun (r : Int64) (u : mS) => post r u.1 u.2.1 u.2.2.1 u.2.2.2.1 u.2.2.2.2) (fxC (mW D h0 ad cI cL)) A) args s 0 0 A) (F0 m 0 ls []) := by
  obtain ⟨hx, hb, hr, hml, hown, hts, hlocks, hK, hN, hD⟩ := id C0
  intro I J cn cm so h H locs ls hP hS hl
  replace h : (∃ k, wMhashOfD_7 post  k I J cn cm so 6148914691236517205 0) := h
  refine lv_ldc2 (v := 6148914691236517205) hx hb hown (hts (.constantLong RXM 70 6148914691236517205) (fx_m (by decide +kernel))) dXM_hashOf_0 ?_
  refine lv_lstore_n (lv' := [(2, .long 6148914691236517205), (0, .ref (ad 14)), (1, .ref (ad 15))]) hx hb dXM_hashOf_3 rfl hl (by decide) rfl (fun ls hl => ?_)
  refine lv_iconst (v := 0) hx hb dXM_hashOf_4 (by decide) ?_
  refine lv_istore (lv' := [(4, .int 0), (2, .long 6148914691236517205), (0, .ref (ad 14)), (1, .ref (ad 15))]) hx hb dXM_hashOf_5 hl (by decide) rfl (fun ls hl => ?_)
  obtain ⟨k, h⟩ := h
  exact sMhashOfD_7  C0  k I J cn cm so 6148914691236517205 0 h H locs ls hP hS (lv_sub hl [2, 3, 1, 0] rfl)
set_option maxRecDepth 100000 in
set_option maxHeartbeats 4000000 in
theorem cMhashOfD {l : Launch} {D : va_G} {A : Nat → Prop} {h0 : Nat} {ad : Nat → Nat} {cI cL : ClassId} (hD : mDs A h0 ad cI cL) {post : Int64 → (Nat → Nat → Int32) → (Nat → Nat → Int64) → Int32 → Int64 → Int32 → Prop} {I : Nat → Nat → Int32} {J : Nat → Nat → Int64} {cn : Int32} {cm : Int64} {so : Int32} (h : wMhashOfD post I J cn cm so) : Met l yXM_hashOf (.code yXM_hashOf cXM_hashOf 5 (some .long) :: lg_tbl) ({ frames := 1, cells := 0, slots := 0, locals := 25 } : Room) (va_Pc [.ref (ad 14), .ref (ad 15)] (fxB (mW D h0 ad cI cL (I, J, cn, cm, so)) D vwCl (mTy cI cL))) (va_Ql (fun (r : Int64) (u : mS) => post r u.1 u.2.1 u.2.2.1 u.2.2.2.1 u.2.2.2.2) (fxC (mW D h0 ad cI cL)) A) 0 0 A := by
  refine fx_start (by decide +kernel) (Nat.le_of_ble_eq_true rfl) ?_
  intro p e s m below meth c ls hx hb hr hml hown hts hlocks hnm hB hl
  exact sMhashOfD_in ⟨hx, hb, hr, hml, hown, hts, hlocks, hB.2.1, hB.2.2, hD⟩ I J cn cm so h _ _ ls hB.1 va_S.rf hl
noncomputable def wMfind_5 (post : Int32 → (Nat → Nat → Int32) → (Nat → Nat → Int64) → Int32 → Int64 → Int32 → Prop) (n : Nat) : (Nat → Nat → Int32) → (Nat → Nat → Int64) → Int32 → Int64 → Int32 → Int64 → Int32 → Int32 → Prop := Nat.rec (motive := fun _ => (Nat → Nat → Int32) → (Nat → Nat → Int64) → Int32 → Int64 → Int32 → Int64 → Int32 → Int32 → Prop) (fun _ _ _ _ _ _ _ _ => False) (fun _ K5 I J cn cm so v1 v3 v4 => ((cn ≤ v4 → (post v3 I J cn cm so)) ∧ (¬ cn ≤ v4 → (vp_in v4 40 ∧ ((¬ (lg_cmp (J 0 (Int32.toNatClampNeg v4)) v1) = 0 → (K5 I J cn cm so v1 v3 (v4 + 1))) ∧ ((lg_cmp (J 0 (Int32.toNatClampNeg v4)) v1) = 0 → (K5 I J cn cm so v1 v4 (v4 + 1)))))))) n
def wMfind (post : Int32 → (Nat → Nat → Int32) → (Nat → Nat → Int64) → Int32 → Int64 → Int32 → Prop) (I : Nat → Nat → Int32) (J : Nat → Nat → Int64) (cn : Int32) (cm : Int64) (so : Int32) (a1 : Int64) : Prop := (∃ k, wMfind_5 post  k I J cn cm so a1 (-1) 0)
set_option maxRecDepth 100000 in
set_option maxHeartbeats 4000000 in
theorem sMfind_5 {p : Program} {l : Launch} {e : Env} {s : State} {m : MethodId} {args : Array Value} {below : List Frame} {meth : Method} {c : Code} {D : va_G} {A : Nat → Prop} {h0 : Nat} {ad : Nat → Nat} {cI cL : ClassId} {post : Int32 → (Nat → Nat → Int32) → (Nat → Nat → Int64) → Int32 → Int64 → Int32 → Prop} (C0 : mCx p s m args meth c D A h0 ad cI cL cXM_find 5 (some .int)) : ∀ (n : Nat) (I : Nat → Nat → Int32) (J : Nat → Nat → Int64) (cn : Int32) (cm : Int64) (so : Int32) (v1 : Int64) (v3 : Int32) (v4 : Int32), wMfind_5 post  n I J cn cm so v1 v3 v4 → ∀ (H : Heap) (locs : List Loc) (ls : Array Slot), mW D h0 ad cI cL (I, J, cn, cm, so) H → va_S A s.heap H locs → lv_has ls 5 [(0, .ref h0), (1, .long v1), (3, .int v3), (4, .int v4)] → W p l e ({ frames := 0, cells := 0, slots := 0, locals := 0 } : Room) s m args below meth c H locs 0 0 (MQ below (va_Qi (fun (r : Int32) (u : mS) => post r u.1 u.2.1 u.2.2.1 u.2.2.2.1 u.2.2.2.2) (fxC (mW D h0 ad cI cL)) A) args s 0 0 A) (F0 m 5 ls []) := by
  obtain ⟨hx, hb, hr, hml, hown, hts, hlocks, hK, hN, hD⟩ := id C0
  intro n
  induction n with
  | zero => exact fun _ _ _ _ _ _ _ _ h => h.elim
  | succ n hK5 =>
    intro I J cn cm so v1 v3 v4 h H locs ls hP hS hl
    replace h : ((cn ≤ v4 → (post v3 I J cn cm so)) ∧ (¬ cn ≤ v4 → (vp_in v4 40 ∧ ((¬ (lg_cmp (J 0 (Int32.toNatClampNeg v4)) v1) = 0 → ((wMfind_5 post  n) I J cn cm so v1 v3 (v4 + 1))) ∧ ((lg_cmp (J 0 (Int32.toNatClampNeg v4)) v1) = 0 → ((wMfind_5 post  n) I J cn cm so v1 v4 (v4 + 1))))))) := h
    refine lv_iload hx hb dXM_find_5 (lv_at hl 3 rfl) ?_
    refine lv_aload_n hx hb dXM_find_7 rfl (lv_at hl 0 rfl) ?_
    refine mg_count hx hb hown hts hK hP dXM_find_8 ?_
    refine lv_icmp_ge (tgt := 39) hx hb dXM_find_11 (by decide) (fun c1 => ?_) (fun c1 => ?_)
    · replace h := h.1 c1
      refine lv_iload_n hx hb dXM_find_39 rfl (lv_at hl 2 rfl) ?_
      exact W.iret hx hb hr (fun t ht hW => ⟨⟨_, (I, J, cn, cm, so), rfl, h, by rw [fxC, ht]; exact hP⟩, hS.F ht⟩) hS.2.2 dXM_find_40 hlocks
    · replace h := h.2 c1
      refine lv_aload_n hx hb dXM_find_14 rfl (lv_at hl 0 rfl) ?_
      refine mg_hash hx hb hown hts hK hP dXM_find_15 ?_
      refine lv_iload hx hb dXM_find_18 (lv_at hl 3 rfl) ?_
      obtain ⟨h2, h⟩ := h
      refine ma_0 hx hb hK hP h2 dXM_find_20 ?_
      refine lv_lload_n hx hb dXM_find_21 rfl (lv_at hl 1 rfl) ?_
      refine W.lcmp hx hb dXM_find_22 ?_
      refine lv_if_ne (tgt := 31) hx hb dXM_find_23 (by decide) (fun c3 => ?_) (fun c3 => ?_)
      · replace h := h.1 c3
        refine lv_iload_n hx hb dXM_find_31 rfl (lv_at hl 2 rfl) ?_
        refine lv_istore_n (lv' := [(3, .int v3), (0, .ref h0), (1, .long v1), (4, .int v4)]) hx hb dXM_find_32 rfl hl (by decide) rfl (fun ls hl => ?_)
        refine lv_iinc (v := v4 + 1) (lv' := [(4, .int (v4 + 1)), (3, .int v3), (0, .ref h0), (1, .long v1)]) hx hb dXM_find_33 hl (k := 3) rfl rfl (by decide) rfl (fun ls hl => ?_)
        refine lv_goto (tgt := 5) hx hb dXM_find_36 (by decide) ?_
        exact hK5 I J cn cm so v1 v3 (v4 + 1) h H locs ls hP hS (lv_sub hl [2, 3, 1, 0] rfl)
      · replace h := h.2 c3
        refine lv_iload hx hb dXM_find_26 (lv_at hl 3 rfl) ?_
        refine lv_goto (tgt := 32) hx hb dXM_find_28 (by decide) ?_
        refine lv_istore_n (lv' := [(3, .int v4), (0, .ref h0), (1, .long v1), (4, .int v4)]) hx hb dXM_find_32 rfl hl (by decide) rfl (fun ls hl => ?_)
        refine lv_iinc (v := v4 + 1) (lv' := [(4, .int (v4 + 1)), (3, .int v4), (0, .ref h0), (1, .long v1)]) hx hb dXM_find_33 hl (k := 3) rfl rfl (by decide) rfl (fun ls hl => ?_)
        refine lv_goto (tgt := 5) hx hb dXM_find_36 (by decide) ?_
        exact hK5 I J cn cm so v1 v4 (v4 + 1) h H locs ls hP hS (lv_sub hl [2, 3, 1, 0] rfl)
set_option maxRecDepth 100000 in
set_option maxHeartbeats 4000000 in
theorem sMfind_in {p : Program} {l : Launch} {e : Env} {s : State} {m : MethodId} {args : Array Value} {below : List Frame} {meth : Method} {c : Code} {D : va_G} {A : Nat → Prop} {h0 : Nat} {ad : Nat → Nat} {cI cL : ClassId} {post : Int32 → (Nat → Nat → Int32) → (Nat → Nat → Int64) → Int32 → Int64 → Int32 → Prop} (C0 : mCx p s m args meth c D A h0 ad cI cL cXM_find 5 (some .int)) : ∀ (I : Nat → Nat → Int32) (J : Nat → Nat → Int64) (cn : Int32) (cm : Int64) (so : Int32) (a1 : Int64), wMfind post I J cn cm so a1 → ∀ (H : Heap) (locs : List Loc) (ls : Array Slot), mW D h0 ad cI cL (I, J, cn, cm, so) H → va_S A s.heap H locs → lv_has ls 5 [(0, .ref h0), (1, .long a1)] → W p l e ({ frames := 0, cells := 0, slots := 0, locals := 0 } : Room) s m args below meth c H locs 0 0 (MQ below (va_Qi (fun (r : Int32) (u : mS) => post r u.1 u.2.1 u.2.2.1 u.2.2.2.1 u.2.2.2.2) (fxC (mW D h0 ad cI cL)) A) args s 0 0 A) (F0 m 0 ls []) := by
  obtain ⟨hx, hb, hr, hml, hown, hts, hlocks, hK, hN, hD⟩ := id C0
  intro I J cn cm so a1 h H locs ls hP hS hl
  replace h : (∃ k, wMfind_5 post  k I J cn cm so a1 (-1) 0) := h
  refine lv_iconst (v := (-1)) hx hb dXM_find_0 (by decide) ?_
  refine lv_istore_n (lv' := [(3, .int (-1)), (0, .ref h0), (1, .long a1)]) hx hb dXM_find_1 rfl hl (by decide) rfl (fun ls hl => ?_)
  refine lv_iconst (v := 0) hx hb dXM_find_2 (by decide) ?_
  refine lv_istore (lv' := [(4, .int 0), (3, .int (-1)), (0, .ref h0), (1, .long a1)]) hx hb dXM_find_3 hl (by decide) rfl (fun ls hl => ?_)
  obtain ⟨k, h⟩ := h
  exact sMfind_5  C0  k I J cn cm so a1 (-1) 0 h H locs ls hP hS (lv_sub hl [2, 3, 1, 0] rfl)
set_option maxRecDepth 100000 in
set_option maxHeartbeats 4000000 in
theorem cMfind {l : Launch} {D : va_G} {A : Nat → Prop} {h0 : Nat} {ad : Nat → Nat} {cI cL : ClassId} (hD : mDs A h0 ad cI cL) {post : Int32 → (Nat → Nat → Int32) → (Nat → Nat → Int64) → Int32 → Int64 → Int32 → Prop} {I : Nat → Nat → Int32} {J : Nat → Nat → Int64} {cn : Int32} {cm : Int64} {so : Int32} {a1 : Int64} (h : wMfind post I J cn cm so a1) : Met l yXM_find (.code yXM_find cXM_find 5 (some .int) :: lg_tbl) ({ frames := 0, cells := 0, slots := 0, locals := 0 } : Room) (va_Pc [.ref h0, .long a1] (fxB (mW D h0 ad cI cL (I, J, cn, cm, so)) D vwCl (mTy cI cL))) (va_Qi (fun (r : Int32) (u : mS) => post r u.1 u.2.1 u.2.2.1 u.2.2.2.1 u.2.2.2.2) (fxC (mW D h0 ad cI cL)) A) 0 0 A := by
  refine fx_start (by decide +kernel) (Nat.le_of_ble_eq_true rfl) ?_
  intro p e s m below meth c ls hx hb hr hml hown hts hlocks hnm hB hl
  exact sMfind_in ⟨hx, hb, hr, hml, hown, hts, hlocks, hB.2.1, hB.2.2, hD⟩ I J cn cm so a1 h _ _ ls hB.1 va_S.rf hl
def wMin (post : Int32 → (Nat → Nat → Int32) → (Nat → Nat → Int64) → Int32 → Int64 → Int32 → Prop) (I : Nat → Nat → Int32) (J : Nat → Nat → Int64) (cn : Int32) (cm : Int64) (so : Int32) (a1 : Int64) (a2 : Int32) : Prop := ((a2 < 0 → (post 0 I J cn cm so)) ∧ (¬ a2 < 0 → ((¬ (lg_cmp ((hj_shr a1 a2) &&& 1) 1) = 0 → (post 0 I J cn cm so)) ∧ ((lg_cmp ((hj_shr a1 a2) &&& 1) 1) = 0 → (post 1 I J cn cm so)))))
set_option maxRecDepth 100000 in
set_option maxHeartbeats 4000000 in
theorem sMin_in {p : Program} {l : Launch} {e : Env} {s : State} {m : MethodId} {args : Array Value} {below : List Frame} {meth : Method} {c : Code} {D : va_G} {A : Nat → Prop} {h0 : Nat} {ad : Nat → Nat} {cI cL : ClassId} {post : Int32 → (Nat → Nat → Int32) → (Nat → Nat → Int64) → Int32 → Int64 → Int32 → Prop} (C0 : mCx p s m args meth c D A h0 ad cI cL cXM_in 3 (some .boolean)) : ∀ (I : Nat → Nat → Int32) (J : Nat → Nat → Int64) (cn : Int32) (cm : Int64) (so : Int32) (a1 : Int64) (a2 : Int32), wMin post I J cn cm so a1 a2 → ∀ (H : Heap) (locs : List Loc) (ls : Array Slot), mW D h0 ad cI cL (I, J, cn, cm, so) H → va_S A s.heap H locs → lv_has ls 3 [(0, .long a1), (2, .int a2)] → W p l e ({ frames := 0, cells := 0, slots := 0, locals := 0 } : Room) s m args below meth c H locs 0 0 (MQ below (va_Qi (fun (r : Int32) (u : mS) => post r u.1 u.2.1 u.2.2.1 u.2.2.2.1 u.2.2.2.2) (fxC (mW D h0 ad cI cL)) A) args s 0 0 A) (F0 m 0 ls []) := by
  obtain ⟨hx, hb, hr, hml, hown, hts, hlocks, hK, hN, hD⟩ := id C0
  intro I J cn cm so a1 a2 h H locs ls hP hS hl
  replace h : ((a2 < 0 → (post 0 I J cn cm so)) ∧ (¬ a2 < 0 → ((¬ (lg_cmp ((hj_shr a1 a2) &&& 1) 1) = 0 → (post 0 I J cn cm so)) ∧ ((lg_cmp ((hj_shr a1 a2) &&& 1) 1) = 0 → (post 1 I J cn cm so))))) := h
  refine lv_iload_n hx hb dXM_in_0 rfl (lv_at hl 1 rfl) ?_
  refine lv_if_lt (tgt := 18) hx hb dXM_in_1 (by decide) (fun c1 => ?_) (fun c1 => ?_)
  · replace h := h.1 c1
    refine lv_iconst (v := 0) hx hb dXM_in_18 (by decide) ?_
    exact W.zret hx hb hr rfl (fun t ht hW => ⟨⟨_, (I, J, cn, cm, so), rfl, h, by rw [fxC, ht]; exact hP⟩, hS.F ht⟩) hS.2.2 dXM_in_19 hlocks
  · replace h := h.2 c1
    refine lv_lload_n hx hb dXM_in_4 rfl (lv_at hl 0 rfl) ?_
    refine lv_iload_n hx hb dXM_in_5 rfl (lv_at hl 1 rfl) ?_
    refine lv_lshr (v := hj_shr a1 a2) hx hb dXM_in_6 rfl ?_
    refine lv_lconst (v := 1) hx hb dXM_in_7 (by decide) ?_
    refine lv_land hx hb dXM_in_8 ?_
    refine lv_lconst (v := 1) hx hb dXM_in_9 (by decide) ?_
    refine W.lcmp hx hb dXM_in_10 ?_
    refine lv_if_ne (tgt := 18) hx hb dXM_in_11 (by decide) (fun c2 => ?_) (fun c2 => ?_)
    · replace h := h.1 c2
      refine lv_iconst (v := 0) hx hb dXM_in_18 (by decide) ?_
      exact W.zret hx hb hr rfl (fun t ht hW => ⟨⟨_, (I, J, cn, cm, so), rfl, h, by rw [fxC, ht]; exact hP⟩, hS.F ht⟩) hS.2.2 dXM_in_19 hlocks
    · replace h := h.2 c2
      refine lv_iconst (v := 1) hx hb dXM_in_14 (by decide) ?_
      refine lv_goto (tgt := 19) hx hb dXM_in_15 (by decide) ?_
      exact W.zret hx hb hr rfl (fun t ht hW => ⟨⟨_, (I, J, cn, cm, so), rfl, h, by rw [fxC, ht]; exact hP⟩, hS.F ht⟩) hS.2.2 dXM_in_19 hlocks
set_option maxRecDepth 100000 in
set_option maxHeartbeats 4000000 in
theorem cMin {l : Launch} {D : va_G} {A : Nat → Prop} {h0 : Nat} {ad : Nat → Nat} {cI cL : ClassId} (hD : mDs A h0 ad cI cL) {post : Int32 → (Nat → Nat → Int32) → (Nat → Nat → Int64) → Int32 → Int64 → Int32 → Prop} {I : Nat → Nat → Int32} {J : Nat → Nat → Int64} {cn : Int32} {cm : Int64} {so : Int32} {a1 : Int64} {a2 : Int32} (h : wMin post I J cn cm so a1 a2) : Met l yXM_in (.code yXM_in cXM_in 3 (some .boolean) :: lg_tbl) ({ frames := 0, cells := 0, slots := 0, locals := 0 } : Room) (va_Pc [.long a1, .int a2] (fxB (mW D h0 ad cI cL (I, J, cn, cm, so)) D vwCl (mTy cI cL))) (va_Qi (fun (r : Int32) (u : mS) => post r u.1 u.2.1 u.2.2.1 u.2.2.2.1 u.2.2.2.2) (fxC (mW D h0 ad cI cL)) A) 0 0 A := by
  refine fx_start (by decide +kernel) (Nat.le_of_ble_eq_true rfl) ?_
  intro p e s m below meth c ls hx hb hr hml hown hts hlocks hnm hB hl
  exact sMin_in ⟨hx, hb, hr, hml, hown, hts, hlocks, hB.2.1, hB.2.2, hD⟩ I J cn cm so a1 a2 h _ _ ls hB.1 va_S.rf hl
noncomputable def wMbecome_72 (post : (Nat → Nat → Int32) → (Nat → Nat → Int64) → Int32 → Int64 → Int32 → Prop) (n : Nat) : (Nat → Nat → Int32) → (Nat → Nat → Int64) → Int32 → Int64 → Int32 → Int32 → Int32 → Prop := Nat.rec (motive := fun _ => (Nat → Nat → Int32) → (Nat → Nat → Int64) → Int32 → Int64 → Int32 → Int32 → Int32 → Prop) (fun _ _ _ _ _ _ _ => False) (fun _ K72 I J cn cm so v1 v2 => ((4 ≤ v2 → (post I J cn cm so)) ∧ (¬ 4 ≤ v2 → (vp_in ((4 * v1) + v2) 160 ∧ (vp_in v2 4 ∧ ∀ J20, J20 = mj_up J 7 (Int32.toNatClampNeg v2) (J 1 (Int32.toNatClampNeg ((4 * v1) + v2))) → (K72 I J20 cn cm so v1 (v2 + 1))))))) n
def wMbecome (post : (Nat → Nat → Int32) → (Nat → Nat → Int64) → Int32 → Int64 → Int32 → Prop) (I : Nat → Nat → Int32) (J : Nat → Nat → Int64) (cn : Int32) (cm : Int64) (so : Int32) (a1 : Int32) : Prop := (vp_in a1 40 ∧ ∀ x2, x2 = J 0 (Int32.toNatClampNeg a1) → (vp_in a1 40 ∧ (vp_in 0 5 ∧ ∀ I4, I4 = mi_up I 9 (Int32.toNatClampNeg 0) (I 0 (Int32.toNatClampNeg a1)) → (vp_in a1 40 ∧ (vp_in 1 5 ∧ ∀ I7, I7 = mi_up I4 9 (Int32.toNatClampNeg 1) (I4 1 (Int32.toNatClampNeg a1)) → (vp_in a1 40 ∧ (vp_in 2 5 ∧ ∀ I10, I10 = mi_up I7 9 (Int32.toNatClampNeg 2) (I7 2 (Int32.toNatClampNeg a1)) → (vp_in a1 40 ∧ (vp_in 3 5 ∧ ∀ I13, I13 = mi_up I10 9 (Int32.toNatClampNeg 3) (I10 3 (Int32.toNatClampNeg a1)) → (vp_in a1 40 ∧ (vp_in 4 5 ∧ ∀ I16, I16 = mi_up I13 9 (Int32.toNatClampNeg 4) (I13 4 (Int32.toNatClampNeg a1)) → (∃ k, wMbecome_72 post  k I16 J cn x2 so a1 0))))))))))))
set_option maxRecDepth 100000 in
set_option maxHeartbeats 4000000 in
theorem sMbecome_72 {p : Program} {l : Launch} {e : Env} {s : State} {m : MethodId} {args : Array Value} {below : List Frame} {meth : Method} {c : Code} {D : va_G} {A : Nat → Prop} {h0 : Nat} {ad : Nat → Nat} {cI cL : ClassId} {post : (Nat → Nat → Int32) → (Nat → Nat → Int64) → Int32 → Int64 → Int32 → Prop} (C0 : mCx p s m args meth c D A h0 ad cI cL cXM_become 3 none) : ∀ (n : Nat) (I : Nat → Nat → Int32) (J : Nat → Nat → Int64) (cn : Int32) (cm : Int64) (so : Int32) (v1 : Int32) (v2 : Int32), wMbecome_72 post  n I J cn cm so v1 v2 → ∀ (H : Heap) (locs : List Loc) (ls : Array Slot), mW D h0 ad cI cL (I, J, cn, cm, so) H → va_S A s.heap H locs → lv_has ls 3 [(0, .ref h0), (1, .int v1), (2, .int v2)] → W p l e ({ frames := 0, cells := 0, slots := 0, locals := 0 } : Room) s m args below meth c H locs 0 0 (MQ below (va_Qv (fun (u : mS) => post u.1 u.2.1 u.2.2.1 u.2.2.2.1 u.2.2.2.2) (fxC (mW D h0 ad cI cL)) A) args s 0 0 A) (F0 m 72 ls []) := by
  obtain ⟨hx, hb, hr, hml, hown, hts, hlocks, hK, hN, hD⟩ := id C0
  intro n
  induction n with
  | zero => exact fun _ _ _ _ _ _ _ h => h.elim
  | succ n hK72 =>
    intro I J cn cm so v1 v2 h H locs ls hP hS hl
    replace h : ((4 ≤ v2 → (post I J cn cm so)) ∧ (¬ 4 ≤ v2 → (vp_in ((4 * v1) + v2) 160 ∧ (vp_in v2 4 ∧ ∀ J20, J20 = mj_up J 7 (Int32.toNatClampNeg v2) (J 1 (Int32.toNatClampNeg ((4 * v1) + v2))) → ((wMbecome_72 post  n) I J20 cn cm so v1 (v2 + 1)))))) := h
    refine lv_iload_n hx hb dXM_become_72 rfl (lv_at hl 2 rfl) ?_
    refine lv_iconst (v := 4) hx hb dXM_become_73 (by decide) ?_
    refine lv_icmp_ge (tgt := 99) hx hb dXM_become_74 (by decide) (fun c18 => ?_) (fun c18 => ?_)
    · replace h := h.1 c18
      exact W.vret hx hb hr (fun t ht hW => ⟨⟨(I, J, cn, cm, so), rfl, h, by rw [fxC, ht]; exact hP⟩, hS.F ht⟩) hS.2.2 dXM_become_99 hlocks
    · replace h := h.2 c18
      refine lv_aload_n hx hb dXM_become_77 rfl (lv_at hl 0 rfl) ?_
      refine mg_comingLink hx hb hown hts hK hP dXM_become_78 ?_
      refine lv_iload_n hx hb dXM_become_81 rfl (lv_at hl 2 rfl) ?_
      refine lv_aload_n hx hb dXM_become_82 rfl (lv_at hl 0 rfl) ?_
      refine mg_link hx hb hown hts hK hP dXM_become_83 ?_
      refine lv_iconst (v := 4) hx hb dXM_become_86 (by decide) ?_
      refine lv_iload_n hx hb dXM_become_87 rfl (lv_at hl 1 rfl) ?_
      refine lv_imul hx hb dXM_become_88 ?_
      refine lv_iload_n hx hb dXM_become_89 rfl (lv_at hl 2 rfl) ?_
      refine lv_iadd hx hb dXM_become_90 ?_
      obtain ⟨h19, h⟩ := h
      refine ma_6 hx hb hK hP h19 dXM_become_91 ?_
      obtain ⟨h21, h⟩ := h
      obtain ⟨J20, eJ20⟩ : ∃ y, y = mj_up J 7 (Int32.toNatClampNeg v2) (J 1 (Int32.toNatClampNeg ((4 * v1) + v2))) := ⟨_, rfl⟩
      replace h := h J20 eJ20
      refine ms_17 hx hb hK hD hP hS h21 dXM_become_92 (fun H locs hP hS => ?_)
      rw [← eJ20] at hP
      refine lv_iinc (v := v2 + 1) (lv' := [(2, .int (v2 + 1)), (0, .ref h0), (1, .int v1)]) hx hb dXM_become_93 hl (k := 2) rfl rfl (by decide) rfl (fun ls hl => ?_)
      refine lv_goto (tgt := 72) hx hb dXM_become_96 (by decide) ?_
      exact hK72 I J20 cn cm so v1 (v2 + 1) h H locs ls hP hS (lv_sub hl [1, 2, 0] rfl)
set_option maxRecDepth 100000 in
set_option maxHeartbeats 4000000 in
theorem sMbecome_in {p : Program} {l : Launch} {e : Env} {s : State} {m : MethodId} {args : Array Value} {below : List Frame} {meth : Method} {c : Code} {D : va_G} {A : Nat → Prop} {h0 : Nat} {ad : Nat → Nat} {cI cL : ClassId} {post : (Nat → Nat → Int32) → (Nat → Nat → Int64) → Int32 → Int64 → Int32 → Prop} (C0 : mCx p s m args meth c D A h0 ad cI cL cXM_become 3 none) : ∀ (I : Nat → Nat → Int32) (J : Nat → Nat → Int64) (cn : Int32) (cm : Int64) (so : Int32) (a1 : Int32), wMbecome post I J cn cm so a1 → ∀ (H : Heap) (locs : List Loc) (ls : Array Slot), mW D h0 ad cI cL (I, J, cn, cm, so) H → va_S A s.heap H locs → lv_has ls 3 [(0, .ref h0), (1, .int a1)] → W p l e ({ frames := 0, cells := 0, slots := 0, locals := 0 } : Room) s m args below meth c H locs 0 0 (MQ below (va_Qv (fun (u : mS) => post u.1 u.2.1 u.2.2.1 u.2.2.2.1 u.2.2.2.2) (fxC (mW D h0 ad cI cL)) A) args s 0 0 A) (F0 m 0 ls []) := by
  obtain ⟨hx, hb, hr, hml, hown, hts, hlocks, hK, hN, hD⟩ := id C0
  intro I J cn cm so a1 h H locs ls hP hS hl
  replace h : (vp_in a1 40 ∧ ∀ x2, x2 = J 0 (Int32.toNatClampNeg a1) → (vp_in a1 40 ∧ (vp_in 0 5 ∧ ∀ I4, I4 = mi_up I 9 (Int32.toNatClampNeg 0) (I 0 (Int32.toNatClampNeg a1)) → (vp_in a1 40 ∧ (vp_in 1 5 ∧ ∀ I7, I7 = mi_up I4 9 (Int32.toNatClampNeg 1) (I4 1 (Int32.toNatClampNeg a1)) → (vp_in a1 40 ∧ (vp_in 2 5 ∧ ∀ I10, I10 = mi_up I7 9 (Int32.toNatClampNeg 2) (I7 2 (Int32.toNatClampNeg a1)) → (vp_in a1 40 ∧ (vp_in 3 5 ∧ ∀ I13, I13 = mi_up I10 9 (Int32.toNatClampNeg 3) (I10 3 (Int32.toNatClampNeg a1)) → (vp_in a1 40 ∧ (vp_in 4 5 ∧ ∀ I16, I16 = mi_up I13 9 (Int32.toNatClampNeg 4) (I13 4 (Int32.toNatClampNeg a1)) → (∃ k, wMbecome_72 post  k I16 J cn x2 so a1 0)))))))))))) := h
  refine lv_aload_n hx hb dXM_become_0 rfl (lv_at hl 0 rfl) ?_
  refine lv_aload_n hx hb dXM_become_1 rfl (lv_at hl 0 rfl) ?_
  refine mg_hash hx hb hown hts hK hP dXM_become_2 ?_
  refine lv_iload_n hx hb dXM_become_5 rfl (lv_at hl 1 rfl) ?_
  obtain ⟨h1, h⟩ := h
  refine ma_0 hx hb hK hP h1 dXM_become_6 ?_
  refine lv_topl (fun x2 ex2 => ?_)
  replace h := h x2 ex2
  refine mp_coming hx hb hown hts hK hD hP hS dXM_become_7 (fun H locs hP hS => ?_)
  refine lv_aload_n hx hb dXM_become_10 rfl (lv_at hl 0 rfl) ?_
  refine mg_numbers hx hb hown hts hK hP dXM_become_11 ?_
  refine lv_iconst (v := 0) hx hb dXM_become_14 (by decide) ?_
  refine lv_aload_n hx hb dXM_become_15 rfl (lv_at hl 0 rfl) ?_
  refine mg_author hx hb hown hts hK hP dXM_become_16 ?_
  refine lv_iload_n hx hb dXM_become_19 rfl (lv_at hl 1 rfl) ?_
  obtain ⟨h3, h⟩ := h
  refine ma_1 hx hb hK hP h3 dXM_become_20 ?_
  obtain ⟨h5, h⟩ := h
  obtain ⟨I4, eI4⟩ : ∃ y, y = mi_up I 9 (Int32.toNatClampNeg 0) (I 0 (Int32.toNatClampNeg a1)) := ⟨_, rfl⟩
  replace h := h I4 eI4
  refine ms_16 hx hb hK hD hP hS h5 dXM_become_21 (fun H locs hP hS => ?_)
  rw [← eI4] at hP
  refine lv_aload_n hx hb dXM_become_22 rfl (lv_at hl 0 rfl) ?_
  refine mg_numbers hx hb hown hts hK hP dXM_become_23 ?_
  refine lv_iconst (v := 1) hx hb dXM_become_26 (by decide) ?_
  refine lv_aload_n hx hb dXM_become_27 rfl (lv_at hl 0 rfl) ?_
  refine mg_kind hx hb hown hts hK hP dXM_become_28 ?_
  refine lv_iload_n hx hb dXM_become_31 rfl (lv_at hl 1 rfl) ?_
  obtain ⟨h6, h⟩ := h
  refine ma_2 hx hb hK hP h6 dXM_become_32 ?_
  obtain ⟨h8, h⟩ := h
  obtain ⟨I7, eI7⟩ : ∃ y, y = mi_up I4 9 (Int32.toNatClampNeg 1) (I4 1 (Int32.toNatClampNeg a1)) := ⟨_, rfl⟩
  replace h := h I7 eI7
  refine ms_16 hx hb hK hD hP hS h8 dXM_become_33 (fun H locs hP hS => ?_)
  rw [← eI7] at hP
  refine lv_aload_n hx hb dXM_become_34 rfl (lv_at hl 0 rfl) ?_
  refine mg_numbers hx hb hown hts hK hP dXM_become_35 ?_
  refine lv_iconst (v := 2) hx hb dXM_become_38 (by decide) ?_
  refine lv_aload_n hx hb dXM_become_39 rfl (lv_at hl 0 rfl) ?_
  refine mg_key hx hb hown hts hK hP dXM_become_40 ?_
  refine lv_iload_n hx hb dXM_become_43 rfl (lv_at hl 1 rfl) ?_
  obtain ⟨h9, h⟩ := h
  refine ma_3 hx hb hK hP h9 dXM_become_44 ?_
  obtain ⟨h11, h⟩ := h
  obtain ⟨I10, eI10⟩ : ∃ y, y = mi_up I7 9 (Int32.toNatClampNeg 2) (I7 2 (Int32.toNatClampNeg a1)) := ⟨_, rfl⟩
  replace h := h I10 eI10
  refine ms_16 hx hb hK hD hP hS h11 dXM_become_45 (fun H locs hP hS => ?_)
  rw [← eI10] at hP
  refine lv_aload_n hx hb dXM_become_46 rfl (lv_at hl 0 rfl) ?_
  refine mg_numbers hx hb hown hts hK hP dXM_become_47 ?_
  refine lv_iconst (v := 3) hx hb dXM_become_50 (by decide) ?_
  refine lv_aload_n hx hb dXM_become_51 rfl (lv_at hl 0 rfl) ?_
  refine mg_value hx hb hown hts hK hP dXM_become_52 ?_
  refine lv_iload_n hx hb dXM_become_55 rfl (lv_at hl 1 rfl) ?_
  obtain ⟨h12, h⟩ := h
  refine ma_4 hx hb hK hP h12 dXM_become_56 ?_
  obtain ⟨h14, h⟩ := h
  obtain ⟨I13, eI13⟩ : ∃ y, y = mi_up I10 9 (Int32.toNatClampNeg 3) (I10 3 (Int32.toNatClampNeg a1)) := ⟨_, rfl⟩
  replace h := h I13 eI13
  refine ms_16 hx hb hK hD hP hS h14 dXM_become_57 (fun H locs hP hS => ?_)
  rw [← eI13] at hP
  refine lv_aload_n hx hb dXM_become_58 rfl (lv_at hl 0 rfl) ?_
  refine mg_numbers hx hb hown hts hK hP dXM_become_59 ?_
  refine lv_iconst (v := 4) hx hb dXM_become_62 (by decide) ?_
  refine lv_aload_n hx hb dXM_become_63 rfl (lv_at hl 0 rfl) ?_
  refine mg_links hx hb hown hts hK hP dXM_become_64 ?_
  refine lv_iload_n hx hb dXM_become_67 rfl (lv_at hl 1 rfl) ?_
  obtain ⟨h15, h⟩ := h
  refine ma_5 hx hb hK hP h15 dXM_become_68 ?_
  obtain ⟨h17, h⟩ := h
  obtain ⟨I16, eI16⟩ : ∃ y, y = mi_up I13 9 (Int32.toNatClampNeg 4) (I13 4 (Int32.toNatClampNeg a1)) := ⟨_, rfl⟩
  replace h := h I16 eI16
  refine ms_16 hx hb hK hD hP hS h17 dXM_become_69 (fun H locs hP hS => ?_)
  rw [← eI16] at hP
  refine lv_iconst (v := 0) hx hb dXM_become_70 (by decide) ?_
  refine lv_istore_n (lv' := [(2, .int 0), (0, .ref h0), (1, .int a1)]) hx hb dXM_become_71 rfl hl (by decide) rfl (fun ls hl => ?_)
  obtain ⟨k, h⟩ := h
  exact sMbecome_72  C0  k I16 J cn x2 so a1 0 h H locs ls hP hS (lv_sub hl [1, 2, 0] rfl)
set_option maxRecDepth 100000 in
set_option maxHeartbeats 4000000 in
theorem cMbecome {l : Launch} {D : va_G} {A : Nat → Prop} {h0 : Nat} {ad : Nat → Nat} {cI cL : ClassId} (hD : mDs A h0 ad cI cL) {post : (Nat → Nat → Int32) → (Nat → Nat → Int64) → Int32 → Int64 → Int32 → Prop} {I : Nat → Nat → Int32} {J : Nat → Nat → Int64} {cn : Int32} {cm : Int64} {so : Int32} {a1 : Int32} (h : wMbecome post I J cn cm so a1) : Met l yXM_become (.code yXM_become cXM_become 3 none :: lg_tbl) ({ frames := 0, cells := 0, slots := 0, locals := 0 } : Room) (va_Pc [.ref h0, .int a1] (fxB (mW D h0 ad cI cL (I, J, cn, cm, so)) D vwCl (mTy cI cL))) (va_Qv (fun (u : mS) => post u.1 u.2.1 u.2.2.1 u.2.2.2.1 u.2.2.2.2) (fxC (mW D h0 ad cI cL)) A) 0 0 A := by
  refine fx_start (by decide +kernel) (Nat.le_of_ble_eq_true rfl) ?_
  intro p e s m below meth c ls hx hb hr hml hown hts hlocks hnm hB hl
  exact sMbecome_in ⟨hx, hb, hr, hml, hown, hts, hlocks, hB.2.1, hB.2.2, hD⟩ I J cn cm so a1 h _ _ ls hB.1 va_S.rf hl
noncomputable def wMinShape_66 (post : Int32 → (Nat → Nat → Int32) → (Nat → Nat → Int64) → Int32 → Int64 → Int32 → Prop) (n : Nat) : (Nat → Nat → Int32) → (Nat → Nat → Int64) → Int32 → Int64 → Int32 → Int32 → Int32 → Prop := Nat.rec (motive := fun _ => (Nat → Nat → Int32) → (Nat → Nat → Int64) → Int32 → Int64 → Int32 → Int32 → Int32 → Prop) (fun _ _ _ _ _ _ _ => False) (fun _ K66 I J cn cm so v1 v2 => (vp_in 4 5 ∧ (((I 9 (Int32.toNatClampNeg 4)) ≤ v2 → (narrow .boolean (.int v1) = .int v1 ∧ post v1 I J cn cm so)) ∧ (¬ (I 9 (Int32.toNatClampNeg 4)) ≤ v2 → ((v1 = 0 → (K66 I J cn cm so 0 (v2 + 1))) ∧ (¬ v1 = 0 → (vp_in (v2 - 1) 4 ∧ (vp_in v2 4 ∧ ((0 ≤ (lg_cmp (J 7 (Int32.toNatClampNeg (v2 - 1))) (J 7 (Int32.toNatClampNeg v2))) → (K66 I J cn cm so 0 (v2 + 1))) ∧ (¬ 0 ≤ (lg_cmp (J 7 (Int32.toNatClampNeg (v2 - 1))) (J 7 (Int32.toNatClampNeg v2))) → (K66 I J cn cm so 1 (v2 + 1)))))))))))) n
def wMinShape (post : Int32 → (Nat → Nat → Int32) → (Nat → Nat → Int64) → Int32 → Int64 → Int32 → Prop) (I : Nat → Nat → Int32) (J : Nat → Nat → Int64) (cn : Int32) (cm : Int64) (so : Int32) : Prop := (vp_in 0 5 ∧ (((I 9 (Int32.toNatClampNeg 0)) < 0 → (∃ k, wMinShape_66 post  k I J cn cm so 0 1)) ∧ (¬ (I 9 (Int32.toNatClampNeg 0)) < 0 → (vp_in 0 5 ∧ ((3 < (I 9 (Int32.toNatClampNeg 0)) → (∃ k, wMinShape_66 post  k I J cn cm so 0 1)) ∧ (¬ 3 < (I 9 (Int32.toNatClampNeg 0)) → (vp_in 1 5 ∧ (((I 9 (Int32.toNatClampNeg 1)) < 0 → (∃ k, wMinShape_66 post  k I J cn cm so 0 1)) ∧ (¬ (I 9 (Int32.toNatClampNeg 1)) < 0 → (vp_in 1 5 ∧ ((3 < (I 9 (Int32.toNatClampNeg 1)) → (∃ k, wMinShape_66 post  k I J cn cm so 0 1)) ∧ (¬ 3 < (I 9 (Int32.toNatClampNeg 1)) → (vp_in 2 5 ∧ (((I 9 (Int32.toNatClampNeg 2)) < 0 → (∃ k, wMinShape_66 post  k I J cn cm so 0 1)) ∧ (¬ (I 9 (Int32.toNatClampNeg 2)) < 0 → (vp_in 2 5 ∧ ((7 < (I 9 (Int32.toNatClampNeg 2)) → (∃ k, wMinShape_66 post  k I J cn cm so 0 1)) ∧ (¬ 7 < (I 9 (Int32.toNatClampNeg 2)) → (∃ k, wMinShape_66 post  k I J cn cm so 1 1)))))))))))))))))))
set_option maxRecDepth 100000 in
set_option maxHeartbeats 4000000 in
theorem sMinShape_66 {p : Program} {l : Launch} {e : Env} {s : State} {m : MethodId} {args : Array Value} {below : List Frame} {meth : Method} {c : Code} {D : va_G} {A : Nat → Prop} {h0 : Nat} {ad : Nat → Nat} {cI cL : ClassId} {post : Int32 → (Nat → Nat → Int32) → (Nat → Nat → Int64) → Int32 → Int64 → Int32 → Prop} (C0 : mCx p s m args meth c D A h0 ad cI cL cXM_inShape 3 (some .boolean)) : ∀ (n : Nat) (I : Nat → Nat → Int32) (J : Nat → Nat → Int64) (cn : Int32) (cm : Int64) (so : Int32) (v1 : Int32) (v2 : Int32), wMinShape_66 post  n I J cn cm so v1 v2 → ∀ (H : Heap) (locs : List Loc) (ls : Array Slot), mW D h0 ad cI cL (I, J, cn, cm, so) H → va_S A s.heap H locs → lv_has ls 3 [(0, .ref h0), (1, .int v1), (2, .int v2)] → W p l e ({ frames := 0, cells := 0, slots := 0, locals := 0 } : Room) s m args below meth c H locs 0 0 (MQ below (va_Qi (fun (r : Int32) (u : mS) => post r u.1 u.2.1 u.2.2.1 u.2.2.2.1 u.2.2.2.2) (fxC (mW D h0 ad cI cL)) A) args s 0 0 A) (F0 m 66 ls []) := by
  obtain ⟨hx, hb, hr, hml, hown, hts, hlocks, hK, hN, hD⟩ := id C0
  intro n
  induction n with
  | zero => exact fun _ _ _ _ _ _ _ h => h.elim
  | succ n hK66 =>
    intro I J cn cm so v1 v2 h H locs ls hP hS hl
    replace h : (vp_in 4 5 ∧ (((I 9 (Int32.toNatClampNeg 4)) ≤ v2 → (narrow .boolean (.int v1) = .int v1 ∧ post v1 I J cn cm so)) ∧ (¬ (I 9 (Int32.toNatClampNeg 4)) ≤ v2 → ((v1 = 0 → ((wMinShape_66 post  n) I J cn cm so 0 (v2 + 1))) ∧ (¬ v1 = 0 → (vp_in (v2 - 1) 4 ∧ (vp_in v2 4 ∧ ((0 ≤ (lg_cmp (J 7 (Int32.toNatClampNeg (v2 - 1))) (J 7 (Int32.toNatClampNeg v2))) → ((wMinShape_66 post  n) I J cn cm so 0 (v2 + 1))) ∧ (¬ 0 ≤ (lg_cmp (J 7 (Int32.toNatClampNeg (v2 - 1))) (J 7 (Int32.toNatClampNeg v2))) → ((wMinShape_66 post  n) I J cn cm so 1 (v2 + 1))))))))))) := h
    refine lv_iload_n hx hb dXM_inShape_66 rfl (lv_at hl 2 rfl) ?_
    refine lv_aload_n hx hb dXM_inShape_67 rfl (lv_at hl 0 rfl) ?_
    refine mg_numbers hx hb hown hts hK hP dXM_inShape_68 ?_
    refine lv_iconst (v := 4) hx hb dXM_inShape_71 (by decide) ?_
    obtain ⟨h13, h⟩ := h
    refine ma_16 hx hb hK hP h13 dXM_inShape_72 ?_
    refine lv_icmp_ge (tgt := 110) hx hb dXM_inShape_73 (by decide) (fun c14 => ?_) (fun c14 => ?_)
    · replace h := h.1 c14
      refine lv_iload_n hx hb dXM_inShape_110 rfl (lv_at hl 1 rfl) ?_
      obtain ⟨hz, h⟩ := h
      exact W.zret hx hb hr hz (fun t ht hW => ⟨⟨_, (I, J, cn, cm, so), rfl, h, by rw [fxC, ht]; exact hP⟩, hS.F ht⟩) hS.2.2 dXM_inShape_111 hlocks
    · replace h := h.2 c14
      refine lv_iload_n hx hb dXM_inShape_76 rfl (lv_at hl 1 rfl) ?_
      refine lv_if_eq (tgt := 102) hx hb dXM_inShape_77 (by decide) (fun c15 => ?_) (fun c15 => ?_)
      · replace h := h.1 c15
        refine lv_iconst (v := 0) hx hb dXM_inShape_102 (by decide) ?_
        refine lv_istore_n (lv' := [(1, .int 0), (0, .ref h0), (2, .int v2)]) hx hb dXM_inShape_103 rfl hl (by decide) rfl (fun ls hl => ?_)
        refine lv_iinc (v := v2 + 1) (lv' := [(2, .int (v2 + 1)), (1, .int 0), (0, .ref h0)]) hx hb dXM_inShape_104 hl (k := 2) rfl rfl (by decide) rfl (fun ls hl => ?_)
        refine lv_goto (tgt := 66) hx hb dXM_inShape_107 (by decide) ?_
        exact hK66 I J cn cm so 0 (v2 + 1) h H locs ls hP hS (lv_sub hl [2, 1, 0] rfl)
      · replace h := h.2 c15
        refine lv_aload_n hx hb dXM_inShape_80 rfl (lv_at hl 0 rfl) ?_
        refine mg_comingLink hx hb hown hts hK hP dXM_inShape_81 ?_
        refine lv_iload_n hx hb dXM_inShape_84 rfl (lv_at hl 2 rfl) ?_
        refine lv_iconst (v := 1) hx hb dXM_inShape_85 (by decide) ?_
        refine lv_isub hx hb dXM_inShape_86 ?_
        obtain ⟨h16, h⟩ := h
        refine ma_17 hx hb hK hP h16 dXM_inShape_87 ?_
        refine lv_aload_n hx hb dXM_inShape_88 rfl (lv_at hl 0 rfl) ?_
        refine mg_comingLink hx hb hown hts hK hP dXM_inShape_89 ?_
        refine lv_iload_n hx hb dXM_inShape_92 rfl (lv_at hl 2 rfl) ?_
        obtain ⟨h17, h⟩ := h
        refine ma_17 hx hb hK hP h17 dXM_inShape_93 ?_
        refine W.lcmp hx hb dXM_inShape_94 ?_
        refine lv_if_ge (tgt := 102) hx hb dXM_inShape_95 (by decide) (fun c18 => ?_) (fun c18 => ?_)
        · replace h := h.1 c18
          refine lv_iconst (v := 0) hx hb dXM_inShape_102 (by decide) ?_
          refine lv_istore_n (lv' := [(1, .int 0), (0, .ref h0), (2, .int v2)]) hx hb dXM_inShape_103 rfl hl (by decide) rfl (fun ls hl => ?_)
          refine lv_iinc (v := v2 + 1) (lv' := [(2, .int (v2 + 1)), (1, .int 0), (0, .ref h0)]) hx hb dXM_inShape_104 hl (k := 2) rfl rfl (by decide) rfl (fun ls hl => ?_)
          refine lv_goto (tgt := 66) hx hb dXM_inShape_107 (by decide) ?_
          exact hK66 I J cn cm so 0 (v2 + 1) h H locs ls hP hS (lv_sub hl [2, 1, 0] rfl)
        · replace h := h.2 c18
          refine lv_iconst (v := 1) hx hb dXM_inShape_98 (by decide) ?_
          refine lv_goto (tgt := 103) hx hb dXM_inShape_99 (by decide) ?_
          refine lv_istore_n (lv' := [(1, .int 1), (0, .ref h0), (2, .int v2)]) hx hb dXM_inShape_103 rfl hl (by decide) rfl (fun ls hl => ?_)
          refine lv_iinc (v := v2 + 1) (lv' := [(2, .int (v2 + 1)), (1, .int 1), (0, .ref h0)]) hx hb dXM_inShape_104 hl (k := 2) rfl rfl (by decide) rfl (fun ls hl => ?_)
          refine lv_goto (tgt := 66) hx hb dXM_inShape_107 (by decide) ?_
          exact hK66 I J cn cm so 1 (v2 + 1) h H locs ls hP hS (lv_sub hl [2, 1, 0] rfl)
set_option maxRecDepth 100000 in
set_option maxHeartbeats 4000000 in
theorem sMinShape_in {p : Program} {l : Launch} {e : Env} {s : State} {m : MethodId} {args : Array Value} {below : List Frame} {meth : Method} {c : Code} {D : va_G} {A : Nat → Prop} {h0 : Nat} {ad : Nat → Nat} {cI cL : ClassId} {post : Int32 → (Nat → Nat → Int32) → (Nat → Nat → Int64) → Int32 → Int64 → Int32 → Prop} (C0 : mCx p s m args meth c D A h0 ad cI cL cXM_inShape 3 (some .boolean)) : ∀ (I : Nat → Nat → Int32) (J : Nat → Nat → Int64) (cn : Int32) (cm : Int64) (so : Int32), wMinShape post I J cn cm so → ∀ (H : Heap) (locs : List Loc) (ls : Array Slot), mW D h0 ad cI cL (I, J, cn, cm, so) H → va_S A s.heap H locs → lv_has ls 3 [(0, .ref h0)] → W p l e ({ frames := 0, cells := 0, slots := 0, locals := 0 } : Room) s m args below meth c H locs 0 0 (MQ below (va_Qi (fun (r : Int32) (u : mS) => post r u.1 u.2.1 u.2.2.1 u.2.2.2.1 u.2.2.2.2) (fxC (mW D h0 ad cI cL)) A) args s 0 0 A) (F0 m 0 ls []) := by
  obtain ⟨hx, hb, hr, hml, hown, hts, hlocks, hK, hN, hD⟩ := id C0
  intro I J cn cm so h H locs ls hP hS hl
  replace h : (vp_in 0 5 ∧ (((I 9 (Int32.toNatClampNeg 0)) < 0 → (∃ k, wMinShape_66 post  k I J cn cm so 0 1)) ∧ (¬ (I 9 (Int32.toNatClampNeg 0)) < 0 → (vp_in 0 5 ∧ ((3 < (I 9 (Int32.toNatClampNeg 0)) → (∃ k, wMinShape_66 post  k I J cn cm so 0 1)) ∧ (¬ 3 < (I 9 (Int32.toNatClampNeg 0)) → (vp_in 1 5 ∧ (((I 9 (Int32.toNatClampNeg 1)) < 0 → (∃ k, wMinShape_66 post  k I J cn cm so 0 1)) ∧ (¬ (I 9 (Int32.toNatClampNeg 1)) < 0 → (vp_in 1 5 ∧ ((3 < (I 9 (Int32.toNatClampNeg 1)) → (∃ k, wMinShape_66 post  k I J cn cm so 0 1)) ∧ (¬ 3 < (I 9 (Int32.toNatClampNeg 1)) → (vp_in 2 5 ∧ (((I 9 (Int32.toNatClampNeg 2)) < 0 → (∃ k, wMinShape_66 post  k I J cn cm so 0 1)) ∧ (¬ (I 9 (Int32.toNatClampNeg 2)) < 0 → (vp_in 2 5 ∧ ((7 < (I 9 (Int32.toNatClampNeg 2)) → (∃ k, wMinShape_66 post  k I J cn cm so 0 1)) ∧ (¬ 7 < (I 9 (Int32.toNatClampNeg 2)) → (∃ k, wMinShape_66 post  k I J cn cm so 1 1))))))))))))))))))) := h
  refine lv_aload_n hx hb dXM_inShape_0 rfl (lv_at hl 0 rfl) ?_
  refine mg_numbers hx hb hown hts hK hP dXM_inShape_1 ?_
  refine lv_iconst (v := 0) hx hb dXM_inShape_4 (by decide) ?_
  obtain ⟨h1, h⟩ := h
  refine ma_16 hx hb hK hP h1 dXM_inShape_5 ?_
  refine lv_if_lt (tgt := 62) hx hb dXM_inShape_6 (by decide) (fun c2 => ?_) (fun c2 => ?_)
  · replace h := h.1 c2
    refine lv_iconst (v := 0) hx hb dXM_inShape_62 (by decide) ?_
    refine lv_istore_n (lv' := [(1, .int 0), (0, .ref h0)]) hx hb dXM_inShape_63 rfl hl (by decide) rfl (fun ls hl => ?_)
    refine lv_iconst (v := 1) hx hb dXM_inShape_64 (by decide) ?_
    refine lv_istore_n (lv' := [(2, .int 1), (1, .int 0), (0, .ref h0)]) hx hb dXM_inShape_65 rfl hl (by decide) rfl (fun ls hl => ?_)
    obtain ⟨k, h⟩ := h
    exact sMinShape_66  C0  k I J cn cm so 0 1 h H locs ls hP hS (lv_sub hl [2, 1, 0] rfl)
  · replace h := h.2 c2
    refine lv_aload_n hx hb dXM_inShape_9 rfl (lv_at hl 0 rfl) ?_
    refine mg_numbers hx hb hown hts hK hP dXM_inShape_10 ?_
    refine lv_iconst (v := 0) hx hb dXM_inShape_13 (by decide) ?_
    obtain ⟨h3, h⟩ := h
    refine ma_16 hx hb hK hP h3 dXM_inShape_14 ?_
    refine lv_iconst (v := 3) hx hb dXM_inShape_15 (by decide) ?_
    refine lv_icmp_gt (tgt := 62) hx hb dXM_inShape_16 (by decide) (fun c4 => ?_) (fun c4 => ?_)
    · replace h := h.1 c4
      refine lv_iconst (v := 0) hx hb dXM_inShape_62 (by decide) ?_
      refine lv_istore_n (lv' := [(1, .int 0), (0, .ref h0)]) hx hb dXM_inShape_63 rfl hl (by decide) rfl (fun ls hl => ?_)
      refine lv_iconst (v := 1) hx hb dXM_inShape_64 (by decide) ?_
      refine lv_istore_n (lv' := [(2, .int 1), (1, .int 0), (0, .ref h0)]) hx hb dXM_inShape_65 rfl hl (by decide) rfl (fun ls hl => ?_)
      obtain ⟨k, h⟩ := h
      exact sMinShape_66  C0  k I J cn cm so 0 1 h H locs ls hP hS (lv_sub hl [2, 1, 0] rfl)
    · replace h := h.2 c4
      refine lv_aload_n hx hb dXM_inShape_19 rfl (lv_at hl 0 rfl) ?_
      refine mg_numbers hx hb hown hts hK hP dXM_inShape_20 ?_
      refine lv_iconst (v := 1) hx hb dXM_inShape_23 (by decide) ?_
      obtain ⟨h5, h⟩ := h
      refine ma_16 hx hb hK hP h5 dXM_inShape_24 ?_
      refine lv_if_lt (tgt := 62) hx hb dXM_inShape_25 (by decide) (fun c6 => ?_) (fun c6 => ?_)
      · replace h := h.1 c6
        refine lv_iconst (v := 0) hx hb dXM_inShape_62 (by decide) ?_
        refine lv_istore_n (lv' := [(1, .int 0), (0, .ref h0)]) hx hb dXM_inShape_63 rfl hl (by decide) rfl (fun ls hl => ?_)
        refine lv_iconst (v := 1) hx hb dXM_inShape_64 (by decide) ?_
        refine lv_istore_n (lv' := [(2, .int 1), (1, .int 0), (0, .ref h0)]) hx hb dXM_inShape_65 rfl hl (by decide) rfl (fun ls hl => ?_)
        obtain ⟨k, h⟩ := h
        exact sMinShape_66  C0  k I J cn cm so 0 1 h H locs ls hP hS (lv_sub hl [2, 1, 0] rfl)
      · replace h := h.2 c6
        refine lv_aload_n hx hb dXM_inShape_28 rfl (lv_at hl 0 rfl) ?_
        refine mg_numbers hx hb hown hts hK hP dXM_inShape_29 ?_
        refine lv_iconst (v := 1) hx hb dXM_inShape_32 (by decide) ?_
        obtain ⟨h7, h⟩ := h
        refine ma_16 hx hb hK hP h7 dXM_inShape_33 ?_
        refine lv_iconst (v := 3) hx hb dXM_inShape_34 (by decide) ?_
        refine lv_icmp_gt (tgt := 62) hx hb dXM_inShape_35 (by decide) (fun c8 => ?_) (fun c8 => ?_)
        · replace h := h.1 c8
          refine lv_iconst (v := 0) hx hb dXM_inShape_62 (by decide) ?_
          refine lv_istore_n (lv' := [(1, .int 0), (0, .ref h0)]) hx hb dXM_inShape_63 rfl hl (by decide) rfl (fun ls hl => ?_)
          refine lv_iconst (v := 1) hx hb dXM_inShape_64 (by decide) ?_
          refine lv_istore_n (lv' := [(2, .int 1), (1, .int 0), (0, .ref h0)]) hx hb dXM_inShape_65 rfl hl (by decide) rfl (fun ls hl => ?_)
          obtain ⟨k, h⟩ := h
          exact sMinShape_66  C0  k I J cn cm so 0 1 h H locs ls hP hS (lv_sub hl [2, 1, 0] rfl)
        · replace h := h.2 c8
          refine lv_aload_n hx hb dXM_inShape_38 rfl (lv_at hl 0 rfl) ?_
          refine mg_numbers hx hb hown hts hK hP dXM_inShape_39 ?_
          refine lv_iconst (v := 2) hx hb dXM_inShape_42 (by decide) ?_
          obtain ⟨h9, h⟩ := h
          refine ma_16 hx hb hK hP h9 dXM_inShape_43 ?_
          refine lv_if_lt (tgt := 62) hx hb dXM_inShape_44 (by decide) (fun c10 => ?_) (fun c10 => ?_)
          · replace h := h.1 c10
            refine lv_iconst (v := 0) hx hb dXM_inShape_62 (by decide) ?_
            refine lv_istore_n (lv' := [(1, .int 0), (0, .ref h0)]) hx hb dXM_inShape_63 rfl hl (by decide) rfl (fun ls hl => ?_)
            refine lv_iconst (v := 1) hx hb dXM_inShape_64 (by decide) ?_
            refine lv_istore_n (lv' := [(2, .int 1), (1, .int 0), (0, .ref h0)]) hx hb dXM_inShape_65 rfl hl (by decide) rfl (fun ls hl => ?_)
            obtain ⟨k, h⟩ := h
            exact sMinShape_66  C0  k I J cn cm so 0 1 h H locs ls hP hS (lv_sub hl [2, 1, 0] rfl)
          · replace h := h.2 c10
            refine lv_aload_n hx hb dXM_inShape_47 rfl (lv_at hl 0 rfl) ?_
            refine mg_numbers hx hb hown hts hK hP dXM_inShape_48 ?_
            refine lv_iconst (v := 2) hx hb dXM_inShape_51 (by decide) ?_
            obtain ⟨h11, h⟩ := h
            refine ma_16 hx hb hK hP h11 dXM_inShape_52 ?_
            refine lv_bipush (v := 7) hx hb dXM_inShape_53 (by decide) ?_
            refine lv_icmp_gt (tgt := 62) hx hb dXM_inShape_55 (by decide) (fun c12 => ?_) (fun c12 => ?_)
            · replace h := h.1 c12
              refine lv_iconst (v := 0) hx hb dXM_inShape_62 (by decide) ?_
              refine lv_istore_n (lv' := [(1, .int 0), (0, .ref h0)]) hx hb dXM_inShape_63 rfl hl (by decide) rfl (fun ls hl => ?_)
              refine lv_iconst (v := 1) hx hb dXM_inShape_64 (by decide) ?_
              refine lv_istore_n (lv' := [(2, .int 1), (1, .int 0), (0, .ref h0)]) hx hb dXM_inShape_65 rfl hl (by decide) rfl (fun ls hl => ?_)
              obtain ⟨k, h⟩ := h
              exact sMinShape_66  C0  k I J cn cm so 0 1 h H locs ls hP hS (lv_sub hl [2, 1, 0] rfl)
            · replace h := h.2 c12
              refine lv_iconst (v := 1) hx hb dXM_inShape_58 (by decide) ?_
              refine lv_goto (tgt := 63) hx hb dXM_inShape_59 (by decide) ?_
              refine lv_istore_n (lv' := [(1, .int 1), (0, .ref h0)]) hx hb dXM_inShape_63 rfl hl (by decide) rfl (fun ls hl => ?_)
              refine lv_iconst (v := 1) hx hb dXM_inShape_64 (by decide) ?_
              refine lv_istore_n (lv' := [(2, .int 1), (1, .int 1), (0, .ref h0)]) hx hb dXM_inShape_65 rfl hl (by decide) rfl (fun ls hl => ?_)
              obtain ⟨k, h⟩ := h
              exact sMinShape_66  C0  k I J cn cm so 1 1 h H locs ls hP hS (lv_sub hl [2, 1, 0] rfl)
set_option maxRecDepth 100000 in
set_option maxHeartbeats 4000000 in
theorem cMinShape {l : Launch} {D : va_G} {A : Nat → Prop} {h0 : Nat} {ad : Nat → Nat} {cI cL : ClassId} (hD : mDs A h0 ad cI cL) {post : Int32 → (Nat → Nat → Int32) → (Nat → Nat → Int64) → Int32 → Int64 → Int32 → Prop} {I : Nat → Nat → Int32} {J : Nat → Nat → Int64} {cn : Int32} {cm : Int64} {so : Int32} (h : wMinShape post I J cn cm so) : Met l yXM_inShape (.code yXM_inShape cXM_inShape 3 (some .boolean) :: lg_tbl) ({ frames := 0, cells := 0, slots := 0, locals := 0 } : Room) (va_Pc [.ref h0] (fxB (mW D h0 ad cI cL (I, J, cn, cm, so)) D vwCl (mTy cI cL))) (va_Qi (fun (r : Int32) (u : mS) => post r u.1 u.2.1 u.2.2.1 u.2.2.2.1 u.2.2.2.2) (fxC (mW D h0 ad cI cL)) A) 0 0 A := by
  refine fx_start (by decide +kernel) (Nat.le_of_ble_eq_true rfl) ?_
  intro p e s m below meth c ls hx hb hr hml hown hts hlocks hnm hB hl
  exact sMinShape_in ⟨hx, hb, hr, hml, hown, hts, hlocks, hB.2.1, hB.2.2, hD⟩ I J cn cm so h _ _ ls hB.1 va_S.rf hl
