def wMmeet_129 (post : Int32 → (Nat → Nat → Int32) → (Nat → Nat → Int64) → Int32 → Int64 → Int32 → Prop) (K46 : (Nat → Nat → Int32) → (Nat → Nat → Int64) → Int32 → Int64 → Int32 → Int32 → Int32 → Int64 → Int64 → Int64 → Int64 → Int32 → Int32 → Prop) (I : Nat → Nat → Int32) (J : Nat → Nat → Int64) (cn : Int32) (cm : Int64) (so : Int32) (v1 : Int32) (v2 : Int32) (v3 : Int64) (v5 : Int64) (v7 : Int64) (v9 : Int64) (v12 : Int32) (v13 : Int64) (v15 : Int64) (t0 : Int32) : Prop := (wMlinkSet (fun r18 I_18 J_18 cn_18 cm_18 so_18 => (wMlinkSet (fun r19 I_19 J_19 cn_19 cm_19 so_19 => (K46 I_19 J_19 cn_19 cm_19 so_19 v1 v2 (v3 ||| r18) (v5 ||| r19) (v7 ||| v13) (v9 ||| v15) t0 v12)) I_18 J_18 cn_18 cm_18 so_18 v15)) I J cn cm so v13)
def wMmeet_113 (post : Int32 → (Nat → Nat → Int32) → (Nat → Nat → Int64) → Int32 → Int64 → Int32 → Prop) (K46 : (Nat → Nat → Int32) → (Nat → Nat → Int64) → Int32 → Int64 → Int32 → Int32 → Int32 → Int64 → Int64 → Int64 → Int64 → Int32 → Int32 → Prop) (I : Nat → Nat → Int32) (J : Nat → Nat → Int64) (cn : Int32) (cm : Int64) (so : Int32) (v1 : Int32) (v2 : Int32) (v3 : Int64) (v5 : Int64) (v7 : Int64) (v9 : Int64) (v11 : Int32) (v13 : Int64) (v15 : Int64) (t0 : Int32) : Prop := ((t0 = 0 → (wMmeet_129 post K46 I J cn cm so v1 v2 v3 v5 v7 v9 t0 v13 v15 v11)) ∧ (¬ t0 = 0 → (wMmeet_129 post K46 I J cn cm so v1 v2 v3 v5 v7 v9 t0 v13 v15 (v11 + 1))))
def wMmeet_108 (post : Int32 → (Nat → Nat → Int32) → (Nat → Nat → Int64) → Int32 → Int64 → Int32 → Prop) (K46 : (Nat → Nat → Int32) → (Nat → Nat → Int64) → Int32 → Int64 → Int32 → Int32 → Int32 → Int64 → Int64 → Int64 → Int64 → Int32 → Int32 → Prop) (I : Nat → Nat → Int32) (J : Nat → Nat → Int64) (cn : Int32) (cm : Int64) (so : Int32) (v1 : Int32) (v2 : Int32) (v3 : Int64) (v5 : Int64) (v7 : Int64) (v9 : Int64) (v11 : Int32) (v13 : Int64) (v15 : Int64) : Prop := (wMmeet_113 post K46 I J cn cm so v1 v2 v3 v5 v7 v9 v11 v13 v15 1)
noncomputable def wMmeet_46 (post : Int32 → (Nat → Nat → Int32) → (Nat → Nat → Int64) → Int32 → Int64 → Int32 → Prop) (n : Nat) : (Nat → Nat → Int32) → (Nat → Nat → Int64) → Int32 → Int64 → Int32 → Int32 → Int32 → Int64 → Int64 → Int64 → Int64 → Int32 → Int32 → Prop := Nat.rec (motive := fun _ => (Nat → Nat → Int32) → (Nat → Nat → Int64) → Int32 → Int64 → Int32 → Int32 → Int32 → Int64 → Int64 → Int64 → Int64 → Int32 → Int32 → Prop) (fun _ _ _ _ _ _ _ _ _ _ _ _ _ => False) (fun _ K46 I J cn cm so v1 v2 v3 v5 v7 v9 v11 v12 => ((v12 = 0 → (wMbring (fun I_9 J_9 cn_9 cm_9 so_9 => (wMbring (fun I_10 J_10 cn_10 cm_10 so_10 => (post v11 I_10 J_10 cn_10 cm_10 so_10)) I_9 J_9 cn_9 cm_9 so_9 v2 v9)) I J cn cm so v1 v7)) ∧ (¬ v12 = 0 → (vp_in v1 4 ∧ ∀ x12, x12 = (v3 &&& ((J 3 (Int32.toNatClampNeg v1)) ^^^ (-1))) &&& (v7 ^^^ (-1)) → (vp_in v2 4 ∧ ∀ x14, x14 = (v5 &&& ((J 3 (Int32.toNatClampNeg v2)) ^^^ (-1))) &&& (v9 ^^^ (-1)) → ((¬ (lg_cmp x12 0) = 0 → (wMmeet_108 post K46 I J cn cm so v1 v2 v3 v5 v7 v9 v11 x12 x14)) ∧ ((lg_cmp x12 0) = 0 → (((lg_cmp x14 0) = 0 → (wMmeet_113 post K46 I J cn cm so v1 v2 v3 v5 v7 v9 v11 x12 x14 0)) ∧ (¬ (lg_cmp x14 0) = 0 → (wMmeet_108 post K46 I J cn cm so v1 v2 v3 v5 v7 v9 v11 x12 x14)))))))))) n
def wMmeet (post : Int32 → (Nat → Nat → Int32) → (Nat → Nat → Int64) → Int32 → Int64 → Int32 → Prop) (I : Nat → Nat → Int32) (J : Nat → Nat → Int64) (cn : Int32) (cm : Int64) (so : Int32) (a1 : Int32) (a2 : Int32) : Prop := (wMisReplica (fun r1 I_1 J_1 cn_1 cm_1 so_1 => ((r1 = 0 → (post (-1) I_1 J_1 cn_1 cm_1 so_1)) ∧ (¬ r1 = 0 → (wMisReplica (fun r3 I_3 J_3 cn_3 cm_3 so_3 => ((r3 = 0 → (post (-1) I_3 J_3 cn_3 cm_3 so_3)) ∧ (¬ r3 = 0 → ((¬ a1 = a2 → (wMheadSet (fun r6 I_6 J_6 cn_6 cm_6 so_6 => (wMheadSet (fun r7 I_7 J_7 cn_7 cm_7 so_7 => (∃ k, wMmeet_46 post  k I_7 J_7 cn_7 cm_7 so_7 a1 a2 r6 r7 0 0 0 1)) I_6 J_6 cn_6 cm_6 so_6 a1)) I_3 J_3 cn_3 cm_3 so_3 a2)) ∧ (a1 = a2 → (post (-1) I_3 J_3 cn_3 cm_3 so_3)))))) I_1 J_1 cn_1 cm_1 so_1 a2)))) I J cn cm so a1)
set_option maxRecDepth 100000 in
set_option maxHeartbeats 4000000 in
theorem sMmeet_129 {p : Program} {l : Launch} {e : Env} {s : State} {m : MethodId} {args : Array Value} {below : List Frame} {meth : Method} {c : Code} {D : va_G} {A : Nat → Prop} {h0 : Nat} {ad : Nat → Nat} {cI cL : ClassId} {post : Int32 → (Nat → Nat → Int32) → (Nat → Nat → Int64) → Int32 → Int64 → Int32 → Prop} (C0 : mCx p s m args meth c D A h0 ad cI cL cXM_meet 17 (some .int)) {K46 : (Nat → Nat → Int32) → (Nat → Nat → Int64) → Int32 → Int64 → Int32 → Int32 → Int32 → Int64 → Int64 → Int64 → Int64 → Int32 → Int32 → Prop} (hK46 : ∀ (I : Nat → Nat → Int32) (J : Nat → Nat → Int64) (cn : Int32) (cm : Int64) (so : Int32) (v1 : Int32) (v2 : Int32) (v3 : Int64) (v5 : Int64) (v7 : Int64) (v9 : Int64) (v11 : Int32) (v12 : Int32), K46 I J cn cm so v1 v2 v3 v5 v7 v9 v11 v12 → ∀ (H : Heap) (locs : List Loc) (ls : Array Slot), mW D h0 ad cI cL (I, J, cn, cm, so) H → va_S A s.heap H locs → lv_has ls 17 [(0, .ref h0), (1, .int v1), (2, .int v2), (3, .long v3), (5, .long v5), (7, .long v7), (9, .long v9), (11, .int v11), (12, .int v12)] → W p l e ({ frames := 6, cells := 0, slots := 0, locals := 145 } : Room) s m args below meth c H locs 0 0 (MQ below (va_Qi (fun (r : Int32) (u : mS) => post r u.1 u.2.1 u.2.2.1 u.2.2.2.1 u.2.2.2.2) (fxC (mW D h0 ad cI cL)) A) args s 0 0 A) (F0 m 46 ls [])) : ∀ (I : Nat → Nat → Int32) (J : Nat → Nat → Int64) (cn : Int32) (cm : Int64) (so : Int32) (v1 : Int32) (v2 : Int32) (v3 : Int64) (v5 : Int64) (v7 : Int64) (v9 : Int64) (v12 : Int32) (v13 : Int64) (v15 : Int64) (t0 : Int32), wMmeet_129 post K46 I J cn cm so v1 v2 v3 v5 v7 v9 v12 v13 v15 t0 → ∀ (H : Heap) (locs : List Loc) (ls : Array Slot), mW D h0 ad cI cL (I, J, cn, cm, so) H → va_S A s.heap H locs → lv_has ls 17 [(0, .ref h0), (1, .int v1), (2, .int v2), (3, .long v3), (5, .long v5), (7, .long v7), (9, .long v9), (12, .int v12), (13, .long v13), (15, .long v15)] → W p l e ({ frames := 6, cells := 0, slots := 0, locals := 145 } : Room) s m args below meth c H locs 0 0 (MQ below (va_Qi (fun (r : Int32) (u : mS) => post r u.1 u.2.1 u.2.2.1 u.2.2.2.1 u.2.2.2.2) (fxC (mW D h0 ad cI cL)) A) args s 0 0 A) (F0 m 129 ls [.int t0]) := by
  obtain ⟨hx, hb, hr, hml, hown, hts, hlocks, hK, hN, hD⟩ := id C0
  intro I J cn cm so v1 v2 v3 v5 v7 v9 v12 v13 v15 t0 h H locs ls hP hS hl
  replace h : (wMlinkSet (fun r18 I_18 J_18 cn_18 cm_18 so_18 => (wMlinkSet (fun r19 I_19 J_19 cn_19 cm_19 so_19 => (K46 I_19 J_19 cn_19 cm_19 so_19 v1 v2 (v3 ||| r18) (v5 ||| r19) (v7 ||| v13) (v9 ||| v15) t0 v12)) I_18 J_18 cn_18 cm_18 so_18 v15)) I J cn cm so v13) := h
  refine lv_istore (lv' := [(11, .int t0), (0, .ref h0), (1, .int v1), (2, .int v2), (3, .long v3), (5, .long v5), (7, .long v7), (9, .long v9), (12, .int v12), (13, .long v13), (15, .long v15)]) hx hb dXM_meet_129 hl (by decide) rfl (fun ls hl => ?_)
  refine lv_lload hx hb dXM_meet_131 (lv_at hl 6 rfl) ?_
  refine lv_lload hx hb dXM_meet_133 (lv_at hl 9 rfl) ?_
  refine lv_lor hx hb dXM_meet_135 ?_
  refine lv_lstore (lv' := [(7, .long (v7 ||| v13)), (11, .int t0), (0, .ref h0), (1, .int v1), (2, .int v2), (3, .long v3), (5, .long v5), (9, .long v9), (12, .int v12), (13, .long v13), (15, .long v15)]) hx hb dXM_meet_136 hl (by decide) rfl (fun ls hl => ?_)
  refine lv_lload hx hb dXM_meet_138 (lv_at hl 7 rfl) ?_
  refine lv_lload hx hb dXM_meet_140 (lv_at hl 10 rfl) ?_
  refine lv_lor hx hb dXM_meet_142 ?_
  refine lv_lstore (lv' := [(9, .long (v9 ||| v15)), (7, .long (v7 ||| v13)), (11, .int t0), (0, .ref h0), (1, .int v1), (2, .int v2), (3, .long v3), (5, .long v5), (12, .int v12), (13, .long v13), (15, .long v15)]) hx hb dXM_meet_143 hl (by decide) rfl (fun ls hl => ?_)
  refine lv_lload_n hx hb dXM_meet_145 rfl (lv_at hl 6 rfl) ?_
  refine lv_aload_n hx hb dXM_meet_146 rfl (lv_at hl 3 rfl) ?_
  refine lv_lload hx hb dXM_meet_147 (lv_at hl 9 rfl) ?_
  refine va_calll (va_runV (As := [.long v13]) (rest := [.long v3]) ⟨hx, hb, hml, hown, hts⟩ (cMlinkSet hD h) (fx_cwV 1 hts gw_M_161 hdXM_linkSet ⟨Nat.le_of_ble_eq_true rfl, Nat.le_of_ble_eq_true rfl⟩) (fx_preV (m_recv hK hP) hP hK hN) rfl rfl hl.1 rfl (lv_room (Nat.le_of_ble_eq_true rfl)) dXM_meet_149 ⟨Nat.le_of_ble_eq_true rfl, Nat.le_of_ble_eq_true rfl⟩) hS (fun _ _ q => q) (fun _ q => q) (fun r18 u t H locs ht hvm h hP hz hk hS => ?_)
  rw [fxC, ht] at hP
  obtain ⟨I_18, J_18, cn_18, cm_18, so_18⟩ := u
  dsimp only at h
  refine lv_lor hx hb dXM_meet_152 ?_
  refine lv_lstore_n (lv' := [(3, .long (v3 ||| r18)), (9, .long (v9 ||| v15)), (7, .long (v7 ||| v13)), (11, .int t0), (0, .ref h0), (1, .int v1), (2, .int v2), (5, .long v5), (12, .int v12), (13, .long v13), (15, .long v15)]) hx hb dXM_meet_153 rfl hl (by decide) rfl (fun ls hl => ?_)
  refine lv_lload hx hb dXM_meet_154 (lv_at hl 7 rfl) ?_
  refine lv_aload_n hx hb dXM_meet_156 rfl (lv_at hl 4 rfl) ?_
  refine lv_lload hx hb dXM_meet_157 (lv_at hl 10 rfl) ?_
  refine va_calll (va_runV (As := [.long v15]) (rest := [.long v5]) ⟨hx, hb, hml, hown, hts⟩ (cMlinkSet hD h) (fx_cwV 1 hts gw_M_161 hdXM_linkSet ⟨Nat.le_of_ble_eq_true rfl, Nat.le_of_ble_eq_true rfl⟩) (fx_preV (m_recv hK hP) hP hK hN) rfl rfl hl.1 rfl (lv_room (Nat.le_of_ble_eq_true rfl)) dXM_meet_159 ⟨Nat.le_of_ble_eq_true rfl, Nat.le_of_ble_eq_true rfl⟩) hS (fun _ _ q => q) (fun _ q => q) (fun r19 u t H locs ht hvm h hP hz hk hS => ?_)
  rw [fxC, ht] at hP
  obtain ⟨I_19, J_19, cn_19, cm_19, so_19⟩ := u
  dsimp only at h
  refine lv_lor hx hb dXM_meet_162 ?_
  refine lv_lstore (lv' := [(5, .long (v5 ||| r19)), (3, .long (v3 ||| r18)), (9, .long (v9 ||| v15)), (7, .long (v7 ||| v13)), (11, .int t0), (0, .ref h0), (1, .int v1), (2, .int v2), (12, .int v12), (13, .long v13), (15, .long v15)]) hx hb dXM_meet_163 hl (by decide) rfl (fun ls hl => ?_)
  refine lv_goto (tgt := 46) hx hb dXM_meet_165 (by decide) ?_
  exact hK46 I_19 J_19 cn_19 cm_19 so_19 v1 v2 (v3 ||| r18) (v5 ||| r19) (v7 ||| v13) (v9 ||| v15) t0 v12 h H locs ls hP hS (lv_sub hl [5, 6, 7, 1, 0, 3, 2, 4, 8] rfl)
set_option maxRecDepth 100000 in
set_option maxHeartbeats 4000000 in
theorem sMmeet_113 {p : Program} {l : Launch} {e : Env} {s : State} {m : MethodId} {args : Array Value} {below : List Frame} {meth : Method} {c : Code} {D : va_G} {A : Nat → Prop} {h0 : Nat} {ad : Nat → Nat} {cI cL : ClassId} {post : Int32 → (Nat → Nat → Int32) → (Nat → Nat → Int64) → Int32 → Int64 → Int32 → Prop} (C0 : mCx p s m args meth c D A h0 ad cI cL cXM_meet 17 (some .int)) {K46 : (Nat → Nat → Int32) → (Nat → Nat → Int64) → Int32 → Int64 → Int32 → Int32 → Int32 → Int64 → Int64 → Int64 → Int64 → Int32 → Int32 → Prop} (hK46 : ∀ (I : Nat → Nat → Int32) (J : Nat → Nat → Int64) (cn : Int32) (cm : Int64) (so : Int32) (v1 : Int32) (v2 : Int32) (v3 : Int64) (v5 : Int64) (v7 : Int64) (v9 : Int64) (v11 : Int32) (v12 : Int32), K46 I J cn cm so v1 v2 v3 v5 v7 v9 v11 v12 → ∀ (H : Heap) (locs : List Loc) (ls : Array Slot), mW D h0 ad cI cL (I, J, cn, cm, so) H → va_S A s.heap H locs → lv_has ls 17 [(0, .ref h0), (1, .int v1), (2, .int v2), (3, .long v3), (5, .long v5), (7, .long v7), (9, .long v9), (11, .int v11), (12, .int v12)] → W p l e ({ frames := 6, cells := 0, slots := 0, locals := 145 } : Room) s m args below meth c H locs 0 0 (MQ below (va_Qi (fun (r : Int32) (u : mS) => post r u.1 u.2.1 u.2.2.1 u.2.2.2.1 u.2.2.2.2) (fxC (mW D h0 ad cI cL)) A) args s 0 0 A) (F0 m 46 ls [])) : ∀ (I : Nat → Nat → Int32) (J : Nat → Nat → Int64) (cn : Int32) (cm : Int64) (so : Int32) (v1 : Int32) (v2 : Int32) (v3 : Int64) (v5 : Int64) (v7 : Int64) (v9 : Int64) (v11 : Int32) (v13 : Int64) (v15 : Int64) (t0 : Int32), wMmeet_113 post K46 I J cn cm so v1 v2 v3 v5 v7 v9 v11 v13 v15 t0 → ∀ (H : Heap) (locs : List Loc) (ls : Array Slot), mW D h0 ad cI cL (I, J, cn, cm, so) H → va_S A s.heap H locs → lv_has ls 17 [(0, .ref h0), (1, .int v1), (2, .int v2), (3, .long v3), (5, .long v5), (7, .long v7), (9, .long v9), (11, .int v11), (13, .long v13), (15, .long v15)] → W p l e ({ frames := 6, cells := 0, slots := 0, locals := 145 } : Room) s m args below meth c H locs 0 0 (MQ below (va_Qi (fun (r : Int32) (u : mS) => post r u.1 u.2.1 u.2.2.1 u.2.2.2.1 u.2.2.2.2) (fxC (mW D h0 ad cI cL)) A) args s 0 0 A) (F0 m 113 ls [.int t0]) := by
  obtain ⟨hx, hb, hr, hml, hown, hts, hlocks, hK, hN, hD⟩ := id C0
  intro I J cn cm so v1 v2 v3 v5 v7 v9 v11 v13 v15 t0 h H locs ls hP hS hl
  replace h : ((t0 = 0 → (wMmeet_129 post K46 I J cn cm so v1 v2 v3 v5 v7 v9 t0 v13 v15 v11)) ∧ (¬ t0 = 0 → (wMmeet_129 post K46 I J cn cm so v1 v2 v3 v5 v7 v9 t0 v13 v15 (v11 + 1)))) := h
  refine lv_istore (lv' := [(12, .int t0), (0, .ref h0), (1, .int v1), (2, .int v2), (3, .long v3), (5, .long v5), (7, .long v7), (9, .long v9), (11, .int v11), (13, .long v13), (15, .long v15)]) hx hb dXM_meet_113 hl (by decide) rfl (fun ls hl => ?_)
  refine lv_iload hx hb dXM_meet_115 (lv_at hl 0 rfl) ?_
  refine lv_if_eq (tgt := 127) hx hb dXM_meet_117 (by decide) (fun c17 => ?_) (fun c17 => ?_)
  · replace h := h.1 c17
    refine lv_iload hx hb dXM_meet_127 (lv_at hl 8 rfl) ?_
    exact sMmeet_129  C0 hK46 I J cn cm so v1 v2 v3 v5 v7 v9 t0 v13 v15 v11 h H locs ls hP hS (lv_sub hl [1, 2, 3, 4, 5, 6, 7, 0, 9, 10] rfl)
  · replace h := h.2 c17
    refine lv_iload hx hb dXM_meet_120 (lv_at hl 8 rfl) ?_
    refine lv_iconst (v := 1) hx hb dXM_meet_122 (by decide) ?_
    refine lv_iadd hx hb dXM_meet_123 ?_
    refine lv_goto (tgt := 129) hx hb dXM_meet_124 (by decide) ?_
    exact sMmeet_129  C0 hK46 I J cn cm so v1 v2 v3 v5 v7 v9 t0 v13 v15 (v11 + 1) h H locs ls hP hS (lv_sub hl [1, 2, 3, 4, 5, 6, 7, 0, 9, 10] rfl)
set_option maxRecDepth 100000 in
set_option maxHeartbeats 4000000 in
theorem sMmeet_108 {p : Program} {l : Launch} {e : Env} {s : State} {m : MethodId} {args : Array Value} {below : List Frame} {meth : Method} {c : Code} {D : va_G} {A : Nat → Prop} {h0 : Nat} {ad : Nat → Nat} {cI cL : ClassId} {post : Int32 → (Nat → Nat → Int32) → (Nat → Nat → Int64) → Int32 → Int64 → Int32 → Prop} (C0 : mCx p s m args meth c D A h0 ad cI cL cXM_meet 17 (some .int)) {K46 : (Nat → Nat → Int32) → (Nat → Nat → Int64) → Int32 → Int64 → Int32 → Int32 → Int32 → Int64 → Int64 → Int64 → Int64 → Int32 → Int32 → Prop} (hK46 : ∀ (I : Nat → Nat → Int32) (J : Nat → Nat → Int64) (cn : Int32) (cm : Int64) (so : Int32) (v1 : Int32) (v2 : Int32) (v3 : Int64) (v5 : Int64) (v7 : Int64) (v9 : Int64) (v11 : Int32) (v12 : Int32), K46 I J cn cm so v1 v2 v3 v5 v7 v9 v11 v12 → ∀ (H : Heap) (locs : List Loc) (ls : Array Slot), mW D h0 ad cI cL (I, J, cn, cm, so) H → va_S A s.heap H locs → lv_has ls 17 [(0, .ref h0), (1, .int v1), (2, .int v2), (3, .long v3), (5, .long v5), (7, .long v7), (9, .long v9), (11, .int v11), (12, .int v12)] → W p l e ({ frames := 6, cells := 0, slots := 0, locals := 145 } : Room) s m args below meth c H locs 0 0 (MQ below (va_Qi (fun (r : Int32) (u : mS) => post r u.1 u.2.1 u.2.2.1 u.2.2.2.1 u.2.2.2.2) (fxC (mW D h0 ad cI cL)) A) args s 0 0 A) (F0 m 46 ls [])) : ∀ (I : Nat → Nat → Int32) (J : Nat → Nat → Int64) (cn : Int32) (cm : Int64) (so : Int32) (v1 : Int32) (v2 : Int32) (v3 : Int64) (v5 : Int64) (v7 : Int64) (v9 : Int64) (v11 : Int32) (v13 : Int64) (v15 : Int64), wMmeet_108 post K46 I J cn cm so v1 v2 v3 v5 v7 v9 v11 v13 v15 → ∀ (H : Heap) (locs : List Loc) (ls : Array Slot), mW D h0 ad cI cL (I, J, cn, cm, so) H → va_S A s.heap H locs → lv_has ls 17 [(0, .ref h0), (1, .int v1), (2, .int v2), (3, .long v3), (5, .long v5), (7, .long v7), (9, .long v9), (11, .int v11), (13, .long v13), (15, .long v15)] → W p l e ({ frames := 6, cells := 0, slots := 0, locals := 145 } : Room) s m args below meth c H locs 0 0 (MQ below (va_Qi (fun (r : Int32) (u : mS) => post r u.1 u.2.1 u.2.2.1 u.2.2.2.1 u.2.2.2.2) (fxC (mW D h0 ad cI cL)) A) args s 0 0 A) (F0 m 108 ls []) := by
  obtain ⟨hx, hb, hr, hml, hown, hts, hlocks, hK, hN, hD⟩ := id C0
  intro I J cn cm so v1 v2 v3 v5 v7 v9 v11 v13 v15 h H locs ls hP hS hl
  replace h : (wMmeet_113 post K46 I J cn cm so v1 v2 v3 v5 v7 v9 v11 v13 v15 1) := h
  refine lv_iconst (v := 1) hx hb dXM_meet_108 (by decide) ?_
  refine lv_goto (tgt := 113) hx hb dXM_meet_109 (by decide) ?_
  exact sMmeet_113  C0 hK46 I J cn cm so v1 v2 v3 v5 v7 v9 v11 v13 v15 1 h H locs ls hP hS (lv_sub hl [0, 1, 2, 3, 4, 5, 6, 7, 8, 9] rfl)
set_option maxRecDepth 100000 in
set_option maxHeartbeats 4000000 in
theorem sMmeet_46 {p : Program} {l : Launch} {e : Env} {s : State} {m : MethodId} {args : Array Value} {below : List Frame} {meth : Method} {c : Code} {D : va_G} {A : Nat → Prop} {h0 : Nat} {ad : Nat → Nat} {cI cL : ClassId} {post : Int32 → (Nat → Nat → Int32) → (Nat → Nat → Int64) → Int32 → Int64 → Int32 → Prop} (C0 : mCx p s m args meth c D A h0 ad cI cL cXM_meet 17 (some .int)) : ∀ (n : Nat) (I : Nat → Nat → Int32) (J : Nat → Nat → Int64) (cn : Int32) (cm : Int64) (so : Int32) (v1 : Int32) (v2 : Int32) (v3 : Int64) (v5 : Int64) (v7 : Int64) (v9 : Int64) (v11 : Int32) (v12 : Int32), wMmeet_46 post  n I J cn cm so v1 v2 v3 v5 v7 v9 v11 v12 → ∀ (H : Heap) (locs : List Loc) (ls : Array Slot), mW D h0 ad cI cL (I, J, cn, cm, so) H → va_S A s.heap H locs → lv_has ls 17 [(0, .ref h0), (1, .int v1), (2, .int v2), (3, .long v3), (5, .long v5), (7, .long v7), (9, .long v9), (11, .int v11), (12, .int v12)] → W p l e ({ frames := 6, cells := 0, slots := 0, locals := 145 } : Room) s m args below meth c H locs 0 0 (MQ below (va_Qi (fun (r : Int32) (u : mS) => post r u.1 u.2.1 u.2.2.1 u.2.2.2.1 u.2.2.2.2) (fxC (mW D h0 ad cI cL)) A) args s 0 0 A) (F0 m 46 ls []) := by
  obtain ⟨hx, hb, hr, hml, hown, hts, hlocks, hK, hN, hD⟩ := id C0
  intro n
  induction n with
  | zero => exact fun _ _ _ _ _ _ _ _ _ _ _ _ _ h => h.elim
  | succ n hK46 =>
    intro I J cn cm so v1 v2 v3 v5 v7 v9 v11 v12 h H locs ls hP hS hl
    replace h : ((v12 = 0 → (wMbring (fun I_9 J_9 cn_9 cm_9 so_9 => (wMbring (fun I_10 J_10 cn_10 cm_10 so_10 => (post v11 I_10 J_10 cn_10 cm_10 so_10)) I_9 J_9 cn_9 cm_9 so_9 v2 v9)) I J cn cm so v1 v7)) ∧ (¬ v12 = 0 → (vp_in v1 4 ∧ ∀ x12, x12 = (v3 &&& ((J 3 (Int32.toNatClampNeg v1)) ^^^ (-1))) &&& (v7 ^^^ (-1)) → (vp_in v2 4 ∧ ∀ x14, x14 = (v5 &&& ((J 3 (Int32.toNatClampNeg v2)) ^^^ (-1))) &&& (v9 ^^^ (-1)) → ((¬ (lg_cmp x12 0) = 0 → (wMmeet_108 post (wMmeet_46 post  n) I J cn cm so v1 v2 v3 v5 v7 v9 v11 x12 x14)) ∧ ((lg_cmp x12 0) = 0 → (((lg_cmp x14 0) = 0 → (wMmeet_113 post (wMmeet_46 post  n) I J cn cm so v1 v2 v3 v5 v7 v9 v11 x12 x14 0)) ∧ (¬ (lg_cmp x14 0) = 0 → (wMmeet_108 post (wMmeet_46 post  n) I J cn cm so v1 v2 v3 v5 v7 v9 v11 x12 x14))))))))) := h
    refine lv_iload hx hb dXM_meet_46 (lv_at hl 8 rfl) ?_
    refine lv_if_eq (tgt := 168) hx hb dXM_meet_48 (by decide) (fun c8 => ?_) (fun c8 => ?_)
    · replace h := h.1 c8
      refine lv_aload_n hx hb dXM_meet_168 rfl (lv_at hl 0 rfl) ?_
      refine lv_iload_n hx hb dXM_meet_169 rfl (lv_at hl 1 rfl) ?_
      refine lv_lload hx hb dXM_meet_170 (lv_at hl 5 rfl) ?_
      refine va_callv (va_runV (As := [.int v1, .long v7]) (rest := []) ⟨hx, hb, hml, hown, hts⟩ (cMbring hD h) (fx_cwV 2 hts gw_M_165 hdXM_bring ⟨Nat.le_of_ble_eq_true rfl, Nat.le_of_ble_eq_true rfl⟩) (fx_preV (m_recv hK hP) hP hK hN) rfl rfl hl.1 rfl (lv_room (Nat.le_of_ble_eq_true rfl)) dXM_meet_172 ⟨Nat.le_of_ble_eq_true rfl, Nat.le_of_ble_eq_true rfl⟩) hS (fun _ _ q => q) (fun _ q => q) (fun u t H locs ht hvm h hP hz hk hS => ?_)
      rw [fxC, ht] at hP
      obtain ⟨I_9, J_9, cn_9, cm_9, so_9⟩ := u
      dsimp only at h
      refine lv_aload_n hx hb dXM_meet_175 rfl (lv_at hl 0 rfl) ?_
      refine lv_iload_n hx hb dXM_meet_176 rfl (lv_at hl 2 rfl) ?_
      refine lv_lload hx hb dXM_meet_177 (lv_at hl 6 rfl) ?_
      refine va_callv (va_runV (As := [.int v2, .long v9]) (rest := []) ⟨hx, hb, hml, hown, hts⟩ (cMbring hD h) (fx_cwV 2 hts gw_M_165 hdXM_bring ⟨Nat.le_of_ble_eq_true rfl, Nat.le_of_ble_eq_true rfl⟩) (fx_preV (m_recv hK hP) hP hK hN) rfl rfl hl.1 rfl (lv_room (Nat.le_of_ble_eq_true rfl)) dXM_meet_179 ⟨Nat.le_of_ble_eq_true rfl, Nat.le_of_ble_eq_true rfl⟩) hS (fun _ _ q => q) (fun _ q => q) (fun u t H locs ht hvm h hP hz hk hS => ?_)
      rw [fxC, ht] at hP
      obtain ⟨I_10, J_10, cn_10, cm_10, so_10⟩ := u
      dsimp only at h
      refine lv_iload hx hb dXM_meet_182 (lv_at hl 7 rfl) ?_
      exact W.iret hx hb hr (fun t ht hW => ⟨⟨_, (I_10, J_10, cn_10, cm_10, so_10), rfl, h, by rw [fxC, ht]; exact hP⟩, hS.F ht⟩) hS.2.2 dXM_meet_184 hlocks
    · replace h := h.2 c8
      refine lv_lload_n hx hb dXM_meet_51 rfl (lv_at hl 3 rfl) ?_
      refine lv_aload_n hx hb dXM_meet_52 rfl (lv_at hl 0 rfl) ?_
      refine mg_holds hx hb hown hts hK hP dXM_meet_53 ?_
      refine lv_iload_n hx hb dXM_meet_56 rfl (lv_at hl 1 rfl) ?_
      obtain ⟨h11, h⟩ := h
      refine ma_9 hx hb hK hP h11 dXM_meet_57 ?_
      refine lv_ldc2 (v := (-1)) hx hb hown (hts (.constantLong RXM 151 (-1)) (fx_m (by decide +kernel))) dXM_meet_58 ?_
      refine lv_lxor hx hb dXM_meet_61 ?_
      refine lv_land hx hb dXM_meet_62 ?_
      refine lv_lload hx hb dXM_meet_63 (lv_at hl 5 rfl) ?_
      refine lv_ldc2 (v := (-1)) hx hb hown (hts (.constantLong RXM 151 (-1)) (fx_m (by decide +kernel))) dXM_meet_65 ?_
      refine lv_lxor hx hb dXM_meet_68 ?_
      refine lv_land hx hb dXM_meet_69 ?_
      refine lv_topl (fun x12 ex12 => ?_)
      replace h := h x12 ex12
      refine lv_lstore (lv' := [(13, .long x12), (0, .ref h0), (1, .int v1), (2, .int v2), (3, .long v3), (5, .long v5), (7, .long v7), (9, .long v9), (11, .int v11), (12, .int v12)]) hx hb dXM_meet_70 hl (by decide) rfl (fun ls hl => ?_)
      refine lv_lload hx hb dXM_meet_72 (lv_at hl 5 rfl) ?_
      refine lv_aload_n hx hb dXM_meet_74 rfl (lv_at hl 1 rfl) ?_
      refine mg_holds hx hb hown hts hK hP dXM_meet_75 ?_
      refine lv_iload_n hx hb dXM_meet_78 rfl (lv_at hl 3 rfl) ?_
      obtain ⟨h13, h⟩ := h
      refine ma_9 hx hb hK hP h13 dXM_meet_79 ?_
      refine lv_ldc2 (v := (-1)) hx hb hown (hts (.constantLong RXM 151 (-1)) (fx_m (by decide +kernel))) dXM_meet_80 ?_
      refine lv_lxor hx hb dXM_meet_83 ?_
      refine lv_land hx hb dXM_meet_84 ?_
      refine lv_lload hx hb dXM_meet_85 (lv_at hl 7 rfl) ?_
      refine lv_ldc2 (v := (-1)) hx hb hown (hts (.constantLong RXM 151 (-1)) (fx_m (by decide +kernel))) dXM_meet_87 ?_
      refine lv_lxor hx hb dXM_meet_90 ?_
      refine lv_land hx hb dXM_meet_91 ?_
      refine lv_topl (fun x14 ex14 => ?_)
      replace h := h x14 ex14
      refine lv_lstore (lv' := [(15, .long x14), (13, .long x12), (0, .ref h0), (1, .int v1), (2, .int v2), (3, .long v3), (5, .long v5), (7, .long v7), (9, .long v9), (11, .int v11), (12, .int v12)]) hx hb dXM_meet_92 hl (by decide) rfl (fun ls hl => ?_)
      refine lv_lload hx hb dXM_meet_94 (lv_at hl 1 rfl) ?_
      refine lv_lconst (v := 0) hx hb dXM_meet_96 (by decide) ?_
      refine W.lcmp hx hb dXM_meet_97 ?_
      refine lv_if_ne (tgt := 108) hx hb dXM_meet_98 (by decide) (fun c15 => ?_) (fun c15 => ?_)
      · replace h := h.1 c15
        exact sMmeet_108  C0 hK46 I J cn cm so v1 v2 v3 v5 v7 v9 v11 x12 x14 h H locs ls hP hS (lv_sub hl [2, 3, 4, 5, 6, 7, 8, 9, 1, 0] rfl)
      · replace h := h.2 c15
        refine lv_lload hx hb dXM_meet_101 (lv_at hl 0 rfl) ?_
        refine lv_lconst (v := 0) hx hb dXM_meet_103 (by decide) ?_
        refine W.lcmp hx hb dXM_meet_104 ?_
        refine lv_if_eq (tgt := 112) hx hb dXM_meet_105 (by decide) (fun c16 => ?_) (fun c16 => ?_)
        · replace h := h.1 c16
          refine lv_iconst (v := 0) hx hb dXM_meet_112 (by decide) ?_
          exact sMmeet_113  C0 hK46 I J cn cm so v1 v2 v3 v5 v7 v9 v11 x12 x14 0 h H locs ls hP hS (lv_sub hl [2, 3, 4, 5, 6, 7, 8, 9, 1, 0] rfl)
        · replace h := h.2 c16
          exact sMmeet_108  C0 hK46 I J cn cm so v1 v2 v3 v5 v7 v9 v11 x12 x14 h H locs ls hP hS (lv_sub hl [2, 3, 4, 5, 6, 7, 8, 9, 1, 0] rfl)
set_option maxRecDepth 100000 in
set_option maxHeartbeats 4000000 in
theorem sMmeet_in {p : Program} {l : Launch} {e : Env} {s : State} {m : MethodId} {args : Array Value} {below : List Frame} {meth : Method} {c : Code} {D : va_G} {A : Nat → Prop} {h0 : Nat} {ad : Nat → Nat} {cI cL : ClassId} {post : Int32 → (Nat → Nat → Int32) → (Nat → Nat → Int64) → Int32 → Int64 → Int32 → Prop} (C0 : mCx p s m args meth c D A h0 ad cI cL cXM_meet 17 (some .int)) : ∀ (I : Nat → Nat → Int32) (J : Nat → Nat → Int64) (cn : Int32) (cm : Int64) (so : Int32) (a1 : Int32) (a2 : Int32), wMmeet post I J cn cm so a1 a2 → ∀ (H : Heap) (locs : List Loc) (ls : Array Slot), mW D h0 ad cI cL (I, J, cn, cm, so) H → va_S A s.heap H locs → lv_has ls 17 [(0, .ref h0), (1, .int a1), (2, .int a2)] → W p l e ({ frames := 6, cells := 0, slots := 0, locals := 145 } : Room) s m args below meth c H locs 0 0 (MQ below (va_Qi (fun (r : Int32) (u : mS) => post r u.1 u.2.1 u.2.2.1 u.2.2.2.1 u.2.2.2.2) (fxC (mW D h0 ad cI cL)) A) args s 0 0 A) (F0 m 0 ls []) := by
  obtain ⟨hx, hb, hr, hml, hown, hts, hlocks, hK, hN, hD⟩ := id C0
  intro I J cn cm so a1 a2 h H locs ls hP hS hl
  replace h : (wMisReplica (fun r1 I_1 J_1 cn_1 cm_1 so_1 => ((r1 = 0 → (post (-1) I_1 J_1 cn_1 cm_1 so_1)) ∧ (¬ r1 = 0 → (wMisReplica (fun r3 I_3 J_3 cn_3 cm_3 so_3 => ((r3 = 0 → (post (-1) I_3 J_3 cn_3 cm_3 so_3)) ∧ (¬ r3 = 0 → ((¬ a1 = a2 → (wMheadSet (fun r6 I_6 J_6 cn_6 cm_6 so_6 => (wMheadSet (fun r7 I_7 J_7 cn_7 cm_7 so_7 => (∃ k, wMmeet_46 post  k I_7 J_7 cn_7 cm_7 so_7 a1 a2 r6 r7 0 0 0 1)) I_6 J_6 cn_6 cm_6 so_6 a1)) I_3 J_3 cn_3 cm_3 so_3 a2)) ∧ (a1 = a2 → (post (-1) I_3 J_3 cn_3 cm_3 so_3)))))) I_1 J_1 cn_1 cm_1 so_1 a2)))) I J cn cm so a1) := h
  refine lv_iload_n hx hb dXM_meet_0 rfl (lv_at hl 1 rfl) ?_
  refine va_calli (va_runS (As := [.int a1]) (rest := []) ⟨hx, hb, hml, hown, hts⟩ (cMisReplica hD h) (fx_cwS 1 hts gw_M_132 hdXM_isReplica ⟨Nat.le_of_ble_eq_true rfl, Nat.le_of_ble_eq_true rfl⟩) (fx_preS hP hK hN) rfl rfl hl.1 rfl (lv_room (Nat.le_of_ble_eq_true rfl)) dXM_meet_1 ⟨Nat.le_of_ble_eq_true rfl, Nat.le_of_ble_eq_true rfl⟩) hS (fun _ _ q => q) (fun _ q => q) (fun r1 u t H locs ht hvm h hP hz hk hS => ?_)
  rw [fxC, ht] at hP
  obtain ⟨I_1, J_1, cn_1, cm_1, so_1⟩ := u
  dsimp only at h
  refine lv_if_eq (tgt := 19) hx hb dXM_meet_4 (by decide) (fun c2 => ?_) (fun c2 => ?_)
  · replace h := h.1 c2
    refine lv_iconst (v := (-1)) hx hb dXM_meet_19 (by decide) ?_
    exact W.iret hx hb hr (fun t ht hW => ⟨⟨_, (I_1, J_1, cn_1, cm_1, so_1), rfl, h, by rw [fxC, ht]; exact hP⟩, hS.F ht⟩) hS.2.2 dXM_meet_20 hlocks
  · replace h := h.2 c2
    refine lv_iload_n hx hb dXM_meet_7 rfl (lv_at hl 2 rfl) ?_
    refine va_calli (va_runS (As := [.int a2]) (rest := []) ⟨hx, hb, hml, hown, hts⟩ (cMisReplica hD h) (fx_cwS 1 hts gw_M_132 hdXM_isReplica ⟨Nat.le_of_ble_eq_true rfl, Nat.le_of_ble_eq_true rfl⟩) (fx_preS hP hK hN) rfl rfl hl.1 rfl (lv_room (Nat.le_of_ble_eq_true rfl)) dXM_meet_8 ⟨Nat.le_of_ble_eq_true rfl, Nat.le_of_ble_eq_true rfl⟩) hS (fun _ _ q => q) (fun _ q => q) (fun r3 u t H locs ht hvm h hP hz hk hS => ?_)
    rw [fxC, ht] at hP
    obtain ⟨I_3, J_3, cn_3, cm_3, so_3⟩ := u
    dsimp only at h
    refine lv_if_eq (tgt := 19) hx hb dXM_meet_11 (by decide) (fun c4 => ?_) (fun c4 => ?_)
    · replace h := h.1 c4
      refine lv_iconst (v := (-1)) hx hb dXM_meet_19 (by decide) ?_
      exact W.iret hx hb hr (fun t ht hW => ⟨⟨_, (I_3, J_3, cn_3, cm_3, so_3), rfl, h, by rw [fxC, ht]; exact hP⟩, hS.F ht⟩) hS.2.2 dXM_meet_20 hlocks
    · replace h := h.2 c4
      refine lv_iload_n hx hb dXM_meet_14 rfl (lv_at hl 1 rfl) ?_
      refine lv_iload_n hx hb dXM_meet_15 rfl (lv_at hl 2 rfl) ?_
      refine lv_icmp_ne (tgt := 21) hx hb dXM_meet_16 (by decide) (fun c5 => ?_) (fun c5 => ?_)
      · replace h := h.1 c5
        refine lv_aload_n hx hb dXM_meet_21 rfl (lv_at hl 0 rfl) ?_
        refine lv_iload_n hx hb dXM_meet_22 rfl (lv_at hl 2 rfl) ?_
        refine va_calll (va_runV (As := [.int a2]) (rest := []) ⟨hx, hb, hml, hown, hts⟩ (cMheadSet hD h) (fx_cwV 1 hts gw_M_157 hdXM_headSet ⟨Nat.le_of_ble_eq_true rfl, Nat.le_of_ble_eq_true rfl⟩) (fx_preV (m_recv hK hP) hP hK hN) rfl rfl hl.1 rfl (lv_room (Nat.le_of_ble_eq_true rfl)) dXM_meet_23 ⟨Nat.le_of_ble_eq_true rfl, Nat.le_of_ble_eq_true rfl⟩) hS (fun _ _ q => q) (fun _ q => q) (fun r6 u t H locs ht hvm h hP hz hk hS => ?_)
        rw [fxC, ht] at hP
        obtain ⟨I_6, J_6, cn_6, cm_6, so_6⟩ := u
        dsimp only at h
        refine lv_lstore_n (lv' := [(3, .long r6), (0, .ref h0), (1, .int a1), (2, .int a2)]) hx hb dXM_meet_26 rfl hl (by decide) rfl (fun ls hl => ?_)
        refine lv_aload_n hx hb dXM_meet_27 rfl (lv_at hl 1 rfl) ?_
        refine lv_iload_n hx hb dXM_meet_28 rfl (lv_at hl 2 rfl) ?_
        refine va_calll (va_runV (As := [.int a1]) (rest := []) ⟨hx, hb, hml, hown, hts⟩ (cMheadSet hD h) (fx_cwV 1 hts gw_M_157 hdXM_headSet ⟨Nat.le_of_ble_eq_true rfl, Nat.le_of_ble_eq_true rfl⟩) (fx_preV (m_recv hK hP) hP hK hN) rfl rfl hl.1 rfl (lv_room (Nat.le_of_ble_eq_true rfl)) dXM_meet_29 ⟨Nat.le_of_ble_eq_true rfl, Nat.le_of_ble_eq_true rfl⟩) hS (fun _ _ q => q) (fun _ q => q) (fun r7 u t H locs ht hvm h hP hz hk hS => ?_)
        rw [fxC, ht] at hP
        obtain ⟨I_7, J_7, cn_7, cm_7, so_7⟩ := u
        dsimp only at h
        refine lv_lstore (lv' := [(5, .long r7), (3, .long r6), (0, .ref h0), (1, .int a1), (2, .int a2)]) hx hb dXM_meet_32 hl (by decide) rfl (fun ls hl => ?_)
        refine lv_lconst (v := 0) hx hb dXM_meet_34 (by decide) ?_
        refine lv_lstore (lv' := [(7, .long 0), (5, .long r7), (3, .long r6), (0, .ref h0), (1, .int a1), (2, .int a2)]) hx hb dXM_meet_35 hl (by decide) rfl (fun ls hl => ?_)
        refine lv_lconst (v := 0) hx hb dXM_meet_37 (by decide) ?_
        refine lv_lstore (lv' := [(9, .long 0), (7, .long 0), (5, .long r7), (3, .long r6), (0, .ref h0), (1, .int a1), (2, .int a2)]) hx hb dXM_meet_38 hl (by decide) rfl (fun ls hl => ?_)
        refine lv_iconst (v := 0) hx hb dXM_meet_40 (by decide) ?_
        refine lv_istore (lv' := [(11, .int 0), (9, .long 0), (7, .long 0), (5, .long r7), (3, .long r6), (0, .ref h0), (1, .int a1), (2, .int a2)]) hx hb dXM_meet_41 hl (by decide) rfl (fun ls hl => ?_)
        refine lv_iconst (v := 1) hx hb dXM_meet_43 (by decide) ?_
        refine lv_istore (lv' := [(12, .int 1), (11, .int 0), (9, .long 0), (7, .long 0), (5, .long r7), (3, .long r6), (0, .ref h0), (1, .int a1), (2, .int a2)]) hx hb dXM_meet_44 hl (by decide) rfl (fun ls hl => ?_)
        obtain ⟨k, h⟩ := h
        exact sMmeet_46  C0  k I_7 J_7 cn_7 cm_7 so_7 a1 a2 r6 r7 0 0 0 1 h H locs ls hP hS (lv_sub hl [6, 7, 8, 5, 4, 3, 2, 1, 0] rfl)
      · replace h := h.2 c5
        refine lv_iconst (v := (-1)) hx hb dXM_meet_19 (by decide) ?_
        exact W.iret hx hb hr (fun t ht hW => ⟨⟨_, (I_3, J_3, cn_3, cm_3, so_3), rfl, h, by rw [fxC, ht]; exact hP⟩, hS.F ht⟩) hS.2.2 dXM_meet_20 hlocks
set_option maxRecDepth 100000 in
set_option maxHeartbeats 4000000 in
theorem cMmeet {l : Launch} {D : va_G} {A : Nat → Prop} {h0 : Nat} {ad : Nat → Nat} {cI cL : ClassId} (hD : mDs A h0 ad cI cL) {post : Int32 → (Nat → Nat → Int32) → (Nat → Nat → Int64) → Int32 → Int64 → Int32 → Prop} {I : Nat → Nat → Int32} {J : Nat → Nat → Int64} {cn : Int32} {cm : Int64} {so : Int32} {a1 : Int32} {a2 : Int32} (h : wMmeet post I J cn cm so a1 a2) : Met l yXM_meet (.code yXM_meet cXM_meet 17 (some .int) :: lg_tbl) ({ frames := 6, cells := 0, slots := 0, locals := 145 } : Room) (va_Pc [.ref h0, .int a1, .int a2] (fxB (mW D h0 ad cI cL (I, J, cn, cm, so)) D vwCl (mTy cI cL))) (va_Qi (fun (r : Int32) (u : mS) => post r u.1 u.2.1 u.2.2.1 u.2.2.2.1 u.2.2.2.2) (fxC (mW D h0 ad cI cL)) A) 0 0 A := by
  refine fx_start (by decide +kernel) (Nat.le_of_ble_eq_true rfl) ?_
  intro p e s m below meth c ls hx hb hr hml hown hts hlocks hnm hB hl
  exact sMmeet_in ⟨hx, hb, hr, hml, hown, hts, hlocks, hB.2.1, hB.2.2, hD⟩ I J cn cm so a1 a2 h _ _ ls hB.1 va_S.rf hl
def wMdrop (post : Int32 → (Nat → Nat → Int32) → (Nat → Nat → Int64) → Int32 → Int64 → Int32 → Prop) (I : Nat → Nat → Int32) (J : Nat → Nat → Int64) (cn : Int32) (cm : Int64) (so : Int32) (a1 : Int32) : Prop := (wMisReplica (fun r1 I_1 J_1 cn_1 cm_1 so_1 => ((¬ r1 = 0 → (vp_in a1 4 ∧ (vp_in a1 4 ∧ ∀ I4, I4 = mi_up I_1 6 (Int32.toNatClampNeg a1) 0 → (post (I_1 6 (Int32.toNatClampNeg a1)) I4 J_1 cn_1 cm_1 so_1)))) ∧ (r1 = 0 → (post (-1) I_1 J_1 cn_1 cm_1 so_1)))) I J cn cm so a1)
set_option maxRecDepth 100000 in
set_option maxHeartbeats 4000000 in
theorem sMdrop_in {p : Program} {l : Launch} {e : Env} {s : State} {m : MethodId} {args : Array Value} {below : List Frame} {meth : Method} {c : Code} {D : va_G} {A : Nat → Prop} {h0 : Nat} {ad : Nat → Nat} {cI cL : ClassId} {post : Int32 → (Nat → Nat → Int32) → (Nat → Nat → Int64) → Int32 → Int64 → Int32 → Prop} (C0 : mCx p s m args meth c D A h0 ad cI cL cXM_drop 3 (some .int)) : ∀ (I : Nat → Nat → Int32) (J : Nat → Nat → Int64) (cn : Int32) (cm : Int64) (so : Int32) (a1 : Int32), wMdrop post I J cn cm so a1 → ∀ (H : Heap) (locs : List Loc) (ls : Array Slot), mW D h0 ad cI cL (I, J, cn, cm, so) H → va_S A s.heap H locs → lv_has ls 3 [(0, .ref h0), (1, .int a1)] → W p l e ({ frames := 1, cells := 0, slots := 0, locals := 20 } : Room) s m args below meth c H locs 0 0 (MQ below (va_Qi (fun (r : Int32) (u : mS) => post r u.1 u.2.1 u.2.2.1 u.2.2.2.1 u.2.2.2.2) (fxC (mW D h0 ad cI cL)) A) args s 0 0 A) (F0 m 0 ls []) := by
  obtain ⟨hx, hb, hr, hml, hown, hts, hlocks, hK, hN, hD⟩ := id C0
  intro I J cn cm so a1 h H locs ls hP hS hl
  replace h : (wMisReplica (fun r1 I_1 J_1 cn_1 cm_1 so_1 => ((¬ r1 = 0 → (vp_in a1 4 ∧ (vp_in a1 4 ∧ ∀ I4, I4 = mi_up I_1 6 (Int32.toNatClampNeg a1) 0 → (post (I_1 6 (Int32.toNatClampNeg a1)) I4 J_1 cn_1 cm_1 so_1)))) ∧ (r1 = 0 → (post (-1) I_1 J_1 cn_1 cm_1 so_1)))) I J cn cm so a1) := h
  refine lv_iload_n hx hb dXM_drop_0 rfl (lv_at hl 1 rfl) ?_
  refine va_calli (va_runS (As := [.int a1]) (rest := []) ⟨hx, hb, hml, hown, hts⟩ (cMisReplica hD h) (fx_cwS 1 hts gw_M_132 hdXM_isReplica ⟨Nat.le_of_ble_eq_true rfl, Nat.le_of_ble_eq_true rfl⟩) (fx_preS hP hK hN) rfl rfl hl.1 rfl (lv_room (Nat.le_of_ble_eq_true rfl)) dXM_drop_1 ⟨Nat.le_of_ble_eq_true rfl, Nat.le_of_ble_eq_true rfl⟩) hS (fun _ _ q => q) (fun _ q => q) (fun r1 u t H locs ht hvm h hP hz hk hS => ?_)
  rw [fxC, ht] at hP
  obtain ⟨I_1, J_1, cn_1, cm_1, so_1⟩ := u
  dsimp only at h
  refine lv_if_ne (tgt := 9) hx hb dXM_drop_4 (by decide) (fun c2 => ?_) (fun c2 => ?_)
  · replace h := h.1 c2
    refine lv_aload_n hx hb dXM_drop_9 rfl (lv_at hl 0 rfl) ?_
    refine mg_waits hx hb hown hts hK hP dXM_drop_10 ?_
    refine lv_iload_n hx hb dXM_drop_13 rfl (lv_at hl 1 rfl) ?_
    obtain ⟨h3, h⟩ := h
    refine ma_10 hx hb hK hP h3 dXM_drop_14 ?_
    refine lv_istore_n (lv' := [(2, .int (I_1 6 (Int32.toNatClampNeg a1))), (0, .ref h0), (1, .int a1)]) hx hb dXM_drop_15 rfl hl (by decide) rfl (fun ls hl => ?_)
    refine lv_aload_n hx hb dXM_drop_16 rfl (lv_at hl 1 rfl) ?_
    refine mg_waits hx hb hown hts hK hP dXM_drop_17 ?_
    refine lv_iload_n hx hb dXM_drop_20 rfl (lv_at hl 2 rfl) ?_
    refine lv_iconst (v := 0) hx hb dXM_drop_21 (by decide) ?_
    obtain ⟨h5, h⟩ := h
    obtain ⟨I4, eI4⟩ : ∃ y, y = mi_up I_1 6 (Int32.toNatClampNeg a1) 0 := ⟨_, rfl⟩
    replace h := h I4 eI4
    refine ms_10 hx hb hK hD hP hS h5 dXM_drop_22 (fun H locs hP hS => ?_)
    rw [← eI4] at hP
    refine lv_iload_n hx hb dXM_drop_23 rfl (lv_at hl 0 rfl) ?_
    exact W.iret hx hb hr (fun t ht hW => ⟨⟨_, (I4, J_1, cn_1, cm_1, so_1), rfl, h, by rw [fxC, ht]; exact hP⟩, hS.F ht⟩) hS.2.2 dXM_drop_24 hlocks
  · replace h := h.2 c2
    refine lv_iconst (v := (-1)) hx hb dXM_drop_7 (by decide) ?_
    exact W.iret hx hb hr (fun t ht hW => ⟨⟨_, (I_1, J_1, cn_1, cm_1, so_1), rfl, h, by rw [fxC, ht]; exact hP⟩, hS.F ht⟩) hS.2.2 dXM_drop_8 hlocks
set_option maxRecDepth 100000 in
set_option maxHeartbeats 4000000 in
theorem cMdrop {l : Launch} {D : va_G} {A : Nat → Prop} {h0 : Nat} {ad : Nat → Nat} {cI cL : ClassId} (hD : mDs A h0 ad cI cL) {post : Int32 → (Nat → Nat → Int32) → (Nat → Nat → Int64) → Int32 → Int64 → Int32 → Prop} {I : Nat → Nat → Int32} {J : Nat → Nat → Int64} {cn : Int32} {cm : Int64} {so : Int32} {a1 : Int32} (h : wMdrop post I J cn cm so a1) : Met l yXM_drop (.code yXM_drop cXM_drop 3 (some .int) :: lg_tbl) ({ frames := 1, cells := 0, slots := 0, locals := 20 } : Room) (va_Pc [.ref h0, .int a1] (fxB (mW D h0 ad cI cL (I, J, cn, cm, so)) D vwCl (mTy cI cL))) (va_Qi (fun (r : Int32) (u : mS) => post r u.1 u.2.1 u.2.2.1 u.2.2.2.1 u.2.2.2.2) (fxC (mW D h0 ad cI cL)) A) 0 0 A := by
  refine fx_start (by decide +kernel) (Nat.le_of_ble_eq_true rfl) ?_
  intro p e s m below meth c ls hx hb hr hml hown hts hlocks hnm hB hl
  exact sMdrop_in ⟨hx, hb, hr, hml, hown, hts, hlocks, hB.2.1, hB.2.2, hD⟩ I J cn cm so a1 h _ _ ls hB.1 va_S.rf hl
def wMplaceOf (post : Int32 → (Nat → Nat → Int32) → (Nat → Nat → Int64) → Int32 → Int64 → Int32 → Prop) (I : Nat → Nat → Int32) (J : Nat → Nat → Int64) (cn : Int32) (cm : Int64) (so : Int32) (a1 : Int32) (a2 : Int32) : Prop := (wMisReplica (fun r1 I_1 J_1 cn_1 cm_1 so_1 => ((¬ r1 = 0 → (vp_in a1 4 ∧ (wMsort (fun I_4 J_4 cn_4 cm_4 so_4 => ((a2 < 0 → (post (-1) I_4 J_4 cn_4 cm_4 so_4)) ∧ (¬ a2 < 0 → ((so_4 ≤ a2 → (post (-1) I_4 J_4 cn_4 cm_4 so_4)) ∧ (¬ so_4 ≤ a2 → (vp_in a2 40 ∧ (post (I_4 10 (Int32.toNatClampNeg a2)) I_4 J_4 cn_4 cm_4 so_4))))))) I_1 J_1 cn_1 cm_1 so_1 (J_1 3 (Int32.toNatClampNeg a1)) 1))) ∧ (r1 = 0 → (post (-1) I_1 J_1 cn_1 cm_1 so_1)))) I J cn cm so a1)
set_option maxRecDepth 100000 in
set_option maxHeartbeats 4000000 in
theorem sMplaceOf_in {p : Program} {l : Launch} {e : Env} {s : State} {m : MethodId} {args : Array Value} {below : List Frame} {meth : Method} {c : Code} {D : va_G} {A : Nat → Prop} {h0 : Nat} {ad : Nat → Nat} {cI cL : ClassId} {post : Int32 → (Nat → Nat → Int32) → (Nat → Nat → Int64) → Int32 → Int64 → Int32 → Prop} (C0 : mCx p s m args meth c D A h0 ad cI cL cXM_placeOf 3 (some .int)) : ∀ (I : Nat → Nat → Int32) (J : Nat → Nat → Int64) (cn : Int32) (cm : Int64) (so : Int32) (a1 : Int32) (a2 : Int32), wMplaceOf post I J cn cm so a1 a2 → ∀ (H : Heap) (locs : List Loc) (ls : Array Slot), mW D h0 ad cI cL (I, J, cn, cm, so) H → va_S A s.heap H locs → lv_has ls 3 [(0, .ref h0), (1, .int a1), (2, .int a2)] → W p l e ({ frames := 2, cells := 0, slots := 0, locals := 48 } : Room) s m args below meth c H locs 0 0 (MQ below (va_Qi (fun (r : Int32) (u : mS) => post r u.1 u.2.1 u.2.2.1 u.2.2.2.1 u.2.2.2.2) (fxC (mW D h0 ad cI cL)) A) args s 0 0 A) (F0 m 0 ls []) := by
  obtain ⟨hx, hb, hr, hml, hown, hts, hlocks, hK, hN, hD⟩ := id C0
  intro I J cn cm so a1 a2 h H locs ls hP hS hl
  replace h : (wMisReplica (fun r1 I_1 J_1 cn_1 cm_1 so_1 => ((¬ r1 = 0 → (vp_in a1 4 ∧ (wMsort (fun I_4 J_4 cn_4 cm_4 so_4 => ((a2 < 0 → (post (-1) I_4 J_4 cn_4 cm_4 so_4)) ∧ (¬ a2 < 0 → ((so_4 ≤ a2 → (post (-1) I_4 J_4 cn_4 cm_4 so_4)) ∧ (¬ so_4 ≤ a2 → (vp_in a2 40 ∧ (post (I_4 10 (Int32.toNatClampNeg a2)) I_4 J_4 cn_4 cm_4 so_4))))))) I_1 J_1 cn_1 cm_1 so_1 (J_1 3 (Int32.toNatClampNeg a1)) 1))) ∧ (r1 = 0 → (post (-1) I_1 J_1 cn_1 cm_1 so_1)))) I J cn cm so a1) := h
  refine lv_iload_n hx hb dXM_placeOf_0 rfl (lv_at hl 1 rfl) ?_
  refine va_calli (va_runS (As := [.int a1]) (rest := []) ⟨hx, hb, hml, hown, hts⟩ (cMisReplica hD h) (fx_cwS 1 hts gw_M_132 hdXM_isReplica ⟨Nat.le_of_ble_eq_true rfl, Nat.le_of_ble_eq_true rfl⟩) (fx_preS hP hK hN) rfl rfl hl.1 rfl (lv_room (Nat.le_of_ble_eq_true rfl)) dXM_placeOf_1 ⟨Nat.le_of_ble_eq_true rfl, Nat.le_of_ble_eq_true rfl⟩) hS (fun _ _ q => q) (fun _ q => q) (fun r1 u t H locs ht hvm h hP hz hk hS => ?_)
  rw [fxC, ht] at hP
  obtain ⟨I_1, J_1, cn_1, cm_1, so_1⟩ := u
  dsimp only at h
  refine lv_if_ne (tgt := 9) hx hb dXM_placeOf_4 (by decide) (fun c2 => ?_) (fun c2 => ?_)
  · replace h := h.1 c2
    refine lv_aload_n hx hb dXM_placeOf_9 rfl (lv_at hl 0 rfl) ?_
    refine lv_aload_n hx hb dXM_placeOf_10 rfl (lv_at hl 0 rfl) ?_
    refine mg_holds hx hb hown hts hK hP dXM_placeOf_11 ?_
    refine lv_iload_n hx hb dXM_placeOf_14 rfl (lv_at hl 1 rfl) ?_
    obtain ⟨h3, h⟩ := h
    refine ma_9 hx hb hK hP h3 dXM_placeOf_15 ?_
    refine lv_iconst (v := 1) hx hb dXM_placeOf_16 (by decide) ?_
    refine va_callv (va_runV (As := [.long (J_1 3 (Int32.toNatClampNeg a1)), .int 1]) (rest := []) ⟨hx, hb, hml, hown, hts⟩ (cMsort hD h) (fx_cwV 2 hts gw_M_153 hdXM_sort ⟨Nat.le_of_ble_eq_true rfl, Nat.le_of_ble_eq_true rfl⟩) (fx_preV (m_recv hK hP) hP hK hN) rfl rfl hl.1 rfl (lv_room (Nat.le_of_ble_eq_true rfl)) dXM_placeOf_17 ⟨Nat.le_of_ble_eq_true rfl, Nat.le_of_ble_eq_true rfl⟩) hS (fun _ _ q => q) (fun _ q => q) (fun u t H locs ht hvm h hP hz hk hS => ?_)
    rw [fxC, ht] at hP
    obtain ⟨I_4, J_4, cn_4, cm_4, so_4⟩ := u
    dsimp only at h
    refine lv_iload_n hx hb dXM_placeOf_20 rfl (lv_at hl 2 rfl) ?_
    refine lv_if_lt (tgt := 41) hx hb dXM_placeOf_21 (by decide) (fun c5 => ?_) (fun c5 => ?_)
    · replace h := h.1 c5
      refine lv_iconst (v := (-1)) hx hb dXM_placeOf_41 (by decide) ?_
      exact W.iret hx hb hr (fun t ht hW => ⟨⟨_, (I_4, J_4, cn_4, cm_4, so_4), rfl, h, by rw [fxC, ht]; exact hP⟩, hS.F ht⟩) hS.2.2 dXM_placeOf_42 hlocks
    · replace h := h.2 c5
      refine lv_iload_n hx hb dXM_placeOf_24 rfl (lv_at hl 2 rfl) ?_
      refine lv_aload_n hx hb dXM_placeOf_25 rfl (lv_at hl 0 rfl) ?_
      refine mg_sorted hx hb hown hts hK hP dXM_placeOf_26 ?_
      refine lv_icmp_ge (tgt := 41) hx hb dXM_placeOf_29 (by decide) (fun c6 => ?_) (fun c6 => ?_)
      · replace h := h.1 c6
        refine lv_iconst (v := (-1)) hx hb dXM_placeOf_41 (by decide) ?_
        exact W.iret hx hb hr (fun t ht hW => ⟨⟨_, (I_4, J_4, cn_4, cm_4, so_4), rfl, h, by rw [fxC, ht]; exact hP⟩, hS.F ht⟩) hS.2.2 dXM_placeOf_42 hlocks
      · replace h := h.2 c6
        refine lv_aload_n hx hb dXM_placeOf_32 rfl (lv_at hl 0 rfl) ?_
        refine mg_order hx hb hown hts hK hP dXM_placeOf_33 ?_
        refine lv_iload_n hx hb dXM_placeOf_36 rfl (lv_at hl 2 rfl) ?_
        obtain ⟨h7, h⟩ := h
        refine ma_18 hx hb hK hP h7 dXM_placeOf_37 ?_
        refine lv_goto (tgt := 42) hx hb dXM_placeOf_38 (by decide) ?_
        exact W.iret hx hb hr (fun t ht hW => ⟨⟨_, (I_4, J_4, cn_4, cm_4, so_4), rfl, h, by rw [fxC, ht]; exact hP⟩, hS.F ht⟩) hS.2.2 dXM_placeOf_42 hlocks
  · replace h := h.2 c2
    refine lv_iconst (v := (-1)) hx hb dXM_placeOf_7 (by decide) ?_
    exact W.iret hx hb hr (fun t ht hW => ⟨⟨_, (I_1, J_1, cn_1, cm_1, so_1), rfl, h, by rw [fxC, ht]; exact hP⟩, hS.F ht⟩) hS.2.2 dXM_placeOf_8 hlocks
set_option maxRecDepth 100000 in
set_option maxHeartbeats 4000000 in
theorem cMplaceOf {l : Launch} {D : va_G} {A : Nat → Prop} {h0 : Nat} {ad : Nat → Nat} {cI cL : ClassId} (hD : mDs A h0 ad cI cL) {post : Int32 → (Nat → Nat → Int32) → (Nat → Nat → Int64) → Int32 → Int64 → Int32 → Prop} {I : Nat → Nat → Int32} {J : Nat → Nat → Int64} {cn : Int32} {cm : Int64} {so : Int32} {a1 : Int32} {a2 : Int32} (h : wMplaceOf post I J cn cm so a1 a2) : Met l yXM_placeOf (.code yXM_placeOf cXM_placeOf 3 (some .int) :: lg_tbl) ({ frames := 2, cells := 0, slots := 0, locals := 48 } : Room) (va_Pc [.ref h0, .int a1, .int a2] (fxB (mW D h0 ad cI cL (I, J, cn, cm, so)) D vwCl (mTy cI cL))) (va_Qi (fun (r : Int32) (u : mS) => post r u.1 u.2.1 u.2.2.1 u.2.2.2.1 u.2.2.2.2) (fxC (mW D h0 ad cI cL)) A) 0 0 A := by
  refine fx_start (by decide +kernel) (Nat.le_of_ble_eq_true rfl) ?_
  intro p e s m below meth c ls hx hb hr hml hown hts hlocks hnm hB hl
  exact sMplaceOf_in ⟨hx, hb, hr, hml, hown, hts, hlocks, hB.2.1, hB.2.2, hD⟩ I J cn cm so a1 a2 h _ _ ls hB.1 va_S.rf hl
noncomputable def wMsize_4 (post : Int32 → (Nat → Nat → Int32) → (Nat → Nat → Int64) → Int32 → Int64 → Int32 → Prop) (n : Nat) : (Nat → Nat → Int32) → (Nat → Nat → Int64) → Int32 → Int64 → Int32 → Int64 → Int32 → Int32 → Prop := Nat.rec (motive := fun _ => (Nat → Nat → Int32) → (Nat → Nat → Int64) → Int32 → Int64 → Int32 → Int64 → Int32 → Int32 → Prop) (fun _ _ _ _ _ _ _ _ => False) (fun _ K4 I J cn cm so v0 v2 v3 => ((40 ≤ v3 → (post v2 I J cn cm so)) ∧ (¬ 40 ≤ v3 → (wMin (fun r2 I_2 J_2 cn_2 cm_2 so_2 => ((r2 = 0 → (K4 I_2 J_2 cn_2 cm_2 so_2 v0 (v2 + 0) (v3 + 1))) ∧ (¬ r2 = 0 → (K4 I_2 J_2 cn_2 cm_2 so_2 v0 (v2 + 1) (v3 + 1))))) I J cn cm so v0 v3)))) n
def wMsize (post : Int32 → (Nat → Nat → Int32) → (Nat → Nat → Int64) → Int32 → Int64 → Int32 → Prop) (I : Nat → Nat → Int32) (J : Nat → Nat → Int64) (cn : Int32) (cm : Int64) (so : Int32) (a1 : Int64) : Prop := (∃ k, wMsize_4 post  k I J cn cm so a1 0 0)
set_option maxRecDepth 100000 in
set_option maxHeartbeats 4000000 in
theorem sMsize_4 {p : Program} {l : Launch} {e : Env} {s : State} {m : MethodId} {args : Array Value} {below : List Frame} {meth : Method} {c : Code} {D : va_G} {A : Nat → Prop} {h0 : Nat} {ad : Nat → Nat} {cI cL : ClassId} {post : Int32 → (Nat → Nat → Int32) → (Nat → Nat → Int64) → Int32 → Int64 → Int32 → Prop} (C0 : mCx p s m args meth c D A h0 ad cI cL cXM_size 4 (some .int)) : ∀ (n : Nat) (I : Nat → Nat → Int32) (J : Nat → Nat → Int64) (cn : Int32) (cm : Int64) (so : Int32) (v0 : Int64) (v2 : Int32) (v3 : Int32), wMsize_4 post  n I J cn cm so v0 v2 v3 → ∀ (H : Heap) (locs : List Loc) (ls : Array Slot), mW D h0 ad cI cL (I, J, cn, cm, so) H → va_S A s.heap H locs → lv_has ls 4 [(0, .long v0), (2, .int v2), (3, .int v3)] → W p l e ({ frames := 1, cells := 0, slots := 0, locals := 22 } : Room) s m args below meth c H locs 0 0 (MQ below (va_Qi (fun (r : Int32) (u : mS) => post r u.1 u.2.1 u.2.2.1 u.2.2.2.1 u.2.2.2.2) (fxC (mW D h0 ad cI cL)) A) args s 0 0 A) (F0 m 4 ls []) := by
  obtain ⟨hx, hb, hr, hml, hown, hts, hlocks, hK, hN, hD⟩ := id C0
  intro n
  induction n with
  | zero => exact fun _ _ _ _ _ _ _ _ h => h.elim
  | succ n hK4 =>
    intro I J cn cm so v0 v2 v3 h H locs ls hP hS hl
    replace h : ((40 ≤ v3 → (post v2 I J cn cm so)) ∧ (¬ 40 ≤ v3 → (wMin (fun r2 I_2 J_2 cn_2 cm_2 so_2 => ((r2 = 0 → ((wMsize_4 post  n) I_2 J_2 cn_2 cm_2 so_2 v0 (v2 + 0) (v3 + 1))) ∧ (¬ r2 = 0 → ((wMsize_4 post  n) I_2 J_2 cn_2 cm_2 so_2 v0 (v2 + 1) (v3 + 1))))) I J cn cm so v0 v3))) := h
    refine lv_iload_n hx hb dXM_size_4 rfl (lv_at hl 2 rfl) ?_
    refine lv_bipush (v := 40) hx hb dXM_size_5 (by decide) ?_
    refine lv_icmp_ge (tgt := 32) hx hb dXM_size_7 (by decide) (fun c1 => ?_) (fun c1 => ?_)
    · replace h := h.1 c1
      refine lv_iload_n hx hb dXM_size_32 rfl (lv_at hl 1 rfl) ?_
      exact W.iret hx hb hr (fun t ht hW => ⟨⟨_, (I, J, cn, cm, so), rfl, h, by rw [fxC, ht]; exact hP⟩, hS.F ht⟩) hS.2.2 dXM_size_33 hlocks
    · replace h := h.2 c1
      refine lv_iload_n hx hb dXM_size_10 rfl (lv_at hl 1 rfl) ?_
      refine lv_lload_n hx hb dXM_size_11 rfl (lv_at hl 0 rfl) ?_
      refine lv_iload_n hx hb dXM_size_12 rfl (lv_at hl 2 rfl) ?_
      refine va_calli (va_runS (As := [.long v0, .int v3]) (rest := [.int v2]) ⟨hx, hb, hml, hown, hts⟩ (cMin hD h) (fx_cwS 2 hts gw_M_88 hdXM_in ⟨Nat.le_of_ble_eq_true rfl, Nat.le_of_ble_eq_true rfl⟩) (fx_preS hP hK hN) rfl rfl hl.1 rfl (lv_room (Nat.le_of_ble_eq_true rfl)) dXM_size_13 ⟨Nat.le_of_ble_eq_true rfl, Nat.le_of_ble_eq_true rfl⟩) hS (fun _ _ q => q) (fun _ q => q) (fun r2 u t H locs ht hvm h hP hz hk hS => ?_)
      rw [fxC, ht] at hP
      obtain ⟨I_2, J_2, cn_2, cm_2, so_2⟩ := u
      dsimp only at h
      refine lv_if_eq (tgt := 23) hx hb dXM_size_16 (by decide) (fun c3 => ?_) (fun c3 => ?_)
      · replace h := h.1 c3
        refine lv_iconst (v := 0) hx hb dXM_size_23 (by decide) ?_
        refine lv_iadd hx hb dXM_size_24 ?_
        refine lv_istore_n (lv' := [(2, .int (v2 + 0)), (0, .long v0), (3, .int v3)]) hx hb dXM_size_25 rfl hl (by decide) rfl (fun ls hl => ?_)
        refine lv_iinc (v := v3 + 1) (lv' := [(3, .int (v3 + 1)), (2, .int (v2 + 0)), (0, .long v0)]) hx hb dXM_size_26 hl (k := 2) rfl rfl (by decide) rfl (fun ls hl => ?_)
        refine lv_goto (tgt := 4) hx hb dXM_size_29 (by decide) ?_
        exact hK4 I_2 J_2 cn_2 cm_2 so_2 v0 (v2 + 0) (v3 + 1) h H locs ls hP hS (lv_sub hl [2, 1, 0] rfl)
      · replace h := h.2 c3
        refine lv_iconst (v := 1) hx hb dXM_size_19 (by decide) ?_
        refine lv_goto (tgt := 24) hx hb dXM_size_20 (by decide) ?_
        refine lv_iadd hx hb dXM_size_24 ?_
        refine lv_istore_n (lv' := [(2, .int (v2 + 1)), (0, .long v0), (3, .int v3)]) hx hb dXM_size_25 rfl hl (by decide) rfl (fun ls hl => ?_)
        refine lv_iinc (v := v3 + 1) (lv' := [(3, .int (v3 + 1)), (2, .int (v2 + 1)), (0, .long v0)]) hx hb dXM_size_26 hl (k := 2) rfl rfl (by decide) rfl (fun ls hl => ?_)
        refine lv_goto (tgt := 4) hx hb dXM_size_29 (by decide) ?_
        exact hK4 I_2 J_2 cn_2 cm_2 so_2 v0 (v2 + 1) (v3 + 1) h H locs ls hP hS (lv_sub hl [2, 1, 0] rfl)
set_option maxRecDepth 100000 in
set_option maxHeartbeats 4000000 in
theorem sMsize_in {p : Program} {l : Launch} {e : Env} {s : State} {m : MethodId} {args : Array Value} {below : List Frame} {meth : Method} {c : Code} {D : va_G} {A : Nat → Prop} {h0 : Nat} {ad : Nat → Nat} {cI cL : ClassId} {post : Int32 → (Nat → Nat → Int32) → (Nat → Nat → Int64) → Int32 → Int64 → Int32 → Prop} (C0 : mCx p s m args meth c D A h0 ad cI cL cXM_size 4 (some .int)) : ∀ (I : Nat → Nat → Int32) (J : Nat → Nat → Int64) (cn : Int32) (cm : Int64) (so : Int32) (a1 : Int64), wMsize post I J cn cm so a1 → ∀ (H : Heap) (locs : List Loc) (ls : Array Slot), mW D h0 ad cI cL (I, J, cn, cm, so) H → va_S A s.heap H locs → lv_has ls 4 [(0, .long a1)] → W p l e ({ frames := 1, cells := 0, slots := 0, locals := 22 } : Room) s m args below meth c H locs 0 0 (MQ below (va_Qi (fun (r : Int32) (u : mS) => post r u.1 u.2.1 u.2.2.1 u.2.2.2.1 u.2.2.2.2) (fxC (mW D h0 ad cI cL)) A) args s 0 0 A) (F0 m 0 ls []) := by
  obtain ⟨hx, hb, hr, hml, hown, hts, hlocks, hK, hN, hD⟩ := id C0
  intro I J cn cm so a1 h H locs ls hP hS hl
  replace h : (∃ k, wMsize_4 post  k I J cn cm so a1 0 0) := h
  refine lv_iconst (v := 0) hx hb dXM_size_0 (by decide) ?_
  refine lv_istore_n (lv' := [(2, .int 0), (0, .long a1)]) hx hb dXM_size_1 rfl hl (by decide) rfl (fun ls hl => ?_)
  refine lv_iconst (v := 0) hx hb dXM_size_2 (by decide) ?_
  refine lv_istore_n (lv' := [(3, .int 0), (2, .int 0), (0, .long a1)]) hx hb dXM_size_3 rfl hl (by decide) rfl (fun ls hl => ?_)
  obtain ⟨k, h⟩ := h
  exact sMsize_4  C0  k I J cn cm so a1 0 0 h H locs ls hP hS (lv_sub hl [2, 1, 0] rfl)
set_option maxRecDepth 100000 in
set_option maxHeartbeats 4000000 in
theorem cMsize {l : Launch} {D : va_G} {A : Nat → Prop} {h0 : Nat} {ad : Nat → Nat} {cI cL : ClassId} (hD : mDs A h0 ad cI cL) {post : Int32 → (Nat → Nat → Int32) → (Nat → Nat → Int64) → Int32 → Int64 → Int32 → Prop} {I : Nat → Nat → Int32} {J : Nat → Nat → Int64} {cn : Int32} {cm : Int64} {so : Int32} {a1 : Int64} (h : wMsize post I J cn cm so a1) : Met l yXM_size (.code yXM_size cXM_size 4 (some .int) :: lg_tbl) ({ frames := 1, cells := 0, slots := 0, locals := 22 } : Room) (va_Pc [.long a1] (fxB (mW D h0 ad cI cL (I, J, cn, cm, so)) D vwCl (mTy cI cL))) (va_Qi (fun (r : Int32) (u : mS) => post r u.1 u.2.1 u.2.2.1 u.2.2.2.1 u.2.2.2.2) (fxC (mW D h0 ad cI cL)) A) 0 0 A := by
  refine fx_start (by decide +kernel) (Nat.le_of_ble_eq_true rfl) ?_
  intro p e s m below meth c ls hx hb hr hml hown hts hlocks hnm hB hl
  exact sMsize_in ⟨hx, hb, hr, hml, hown, hts, hlocks, hB.2.1, hB.2.2, hD⟩ I J cn cm so a1 h _ _ ls hB.1 va_S.rf hl
def wMheld (post : Int32 → (Nat → Nat → Int32) → (Nat → Nat → Int64) → Int32 → Int64 → Int32 → Prop) (I : Nat → Nat → Int32) (J : Nat → Nat → Int64) (cn : Int32) (cm : Int64) (so : Int32) (a1 : Int32) : Prop := (wMisReplica (fun r1 I_1 J_1 cn_1 cm_1 so_1 => ((r1 = 0 → (post (-1) I_1 J_1 cn_1 cm_1 so_1)) ∧ (¬ r1 = 0 → (vp_in a1 4 ∧ (wMsize (fun r4 I_4 J_4 cn_4 cm_4 so_4 => (post r4 I_4 J_4 cn_4 cm_4 so_4)) I_1 J_1 cn_1 cm_1 so_1 (J_1 3 (Int32.toNatClampNeg a1))))))) I J cn cm so a1)
set_option maxRecDepth 100000 in
set_option maxHeartbeats 4000000 in
theorem sMheld_in {p : Program} {l : Launch} {e : Env} {s : State} {m : MethodId} {args : Array Value} {below : List Frame} {meth : Method} {c : Code} {D : va_G} {A : Nat → Prop} {h0 : Nat} {ad : Nat → Nat} {cI cL : ClassId} {post : Int32 → (Nat → Nat → Int32) → (Nat → Nat → Int64) → Int32 → Int64 → Int32 → Prop} (C0 : mCx p s m args meth c D A h0 ad cI cL cXM_held 2 (some .int)) : ∀ (I : Nat → Nat → Int32) (J : Nat → Nat → Int64) (cn : Int32) (cm : Int64) (so : Int32) (a1 : Int32), wMheld post I J cn cm so a1 → ∀ (H : Heap) (locs : List Loc) (ls : Array Slot), mW D h0 ad cI cL (I, J, cn, cm, so) H → va_S A s.heap H locs → lv_has ls 2 [(0, .ref h0), (1, .int a1)] → W p l e ({ frames := 2, cells := 0, slots := 0, locals := 45 } : Room) s m args below meth c H locs 0 0 (MQ below (va_Qi (fun (r : Int32) (u : mS) => post r u.1 u.2.1 u.2.2.1 u.2.2.2.1 u.2.2.2.2) (fxC (mW D h0 ad cI cL)) A) args s 0 0 A) (F0 m 0 ls []) := by
  obtain ⟨hx, hb, hr, hml, hown, hts, hlocks, hK, hN, hD⟩ := id C0
  intro I J cn cm so a1 h H locs ls hP hS hl
  replace h : (wMisReplica (fun r1 I_1 J_1 cn_1 cm_1 so_1 => ((r1 = 0 → (post (-1) I_1 J_1 cn_1 cm_1 so_1)) ∧ (¬ r1 = 0 → (vp_in a1 4 ∧ (wMsize (fun r4 I_4 J_4 cn_4 cm_4 so_4 => (post r4 I_4 J_4 cn_4 cm_4 so_4)) I_1 J_1 cn_1 cm_1 so_1 (J_1 3 (Int32.toNatClampNeg a1))))))) I J cn cm so a1) := h
  refine lv_iload_n hx hb dXM_held_0 rfl (lv_at hl 1 rfl) ?_
  refine va_calli (va_runS (As := [.int a1]) (rest := []) ⟨hx, hb, hml, hown, hts⟩ (cMisReplica hD h) (fx_cwS 1 hts gw_M_132 hdXM_isReplica ⟨Nat.le_of_ble_eq_true rfl, Nat.le_of_ble_eq_true rfl⟩) (fx_preS hP hK hN) rfl rfl hl.1 rfl (lv_room (Nat.le_of_ble_eq_true rfl)) dXM_held_1 ⟨Nat.le_of_ble_eq_true rfl, Nat.le_of_ble_eq_true rfl⟩) hS (fun _ _ q => q) (fun _ q => q) (fun r1 u t H locs ht hvm h hP hz hk hS => ?_)
  rw [fxC, ht] at hP
  obtain ⟨I_1, J_1, cn_1, cm_1, so_1⟩ := u
  dsimp only at h
  refine lv_if_eq (tgt := 19) hx hb dXM_held_4 (by decide) (fun c2 => ?_) (fun c2 => ?_)
  · replace h := h.1 c2
    refine lv_iconst (v := (-1)) hx hb dXM_held_19 (by decide) ?_
    exact W.iret hx hb hr (fun t ht hW => ⟨⟨_, (I_1, J_1, cn_1, cm_1, so_1), rfl, h, by rw [fxC, ht]; exact hP⟩, hS.F ht⟩) hS.2.2 dXM_held_20 hlocks
  · replace h := h.2 c2
    refine lv_aload_n hx hb dXM_held_7 rfl (lv_at hl 0 rfl) ?_
    refine mg_holds hx hb hown hts hK hP dXM_held_8 ?_
    refine lv_iload_n hx hb dXM_held_11 rfl (lv_at hl 1 rfl) ?_
    obtain ⟨h3, h⟩ := h
    refine ma_9 hx hb hK hP h3 dXM_held_12 ?_
    refine va_calli (va_runS (As := [.long (J_1 3 (Int32.toNatClampNeg a1))]) (rest := []) ⟨hx, hb, hml, hown, hts⟩ (cMsize hD h) (fx_cwS 1 hts gw_M_173 hdXM_size ⟨Nat.le_of_ble_eq_true rfl, Nat.le_of_ble_eq_true rfl⟩) (fx_preS hP hK hN) rfl rfl hl.1 rfl (lv_room (Nat.le_of_ble_eq_true rfl)) dXM_held_13 ⟨Nat.le_of_ble_eq_true rfl, Nat.le_of_ble_eq_true rfl⟩) hS (fun _ _ q => q) (fun _ q => q) (fun r4 u t H locs ht hvm h hP hz hk hS => ?_)
    rw [fxC, ht] at hP
    obtain ⟨I_4, J_4, cn_4, cm_4, so_4⟩ := u
    dsimp only at h
    refine lv_goto (tgt := 20) hx hb dXM_held_16 (by decide) ?_
    exact W.iret hx hb hr (fun t ht hW => ⟨⟨_, (I_4, J_4, cn_4, cm_4, so_4), rfl, h, by rw [fxC, ht]; exact hP⟩, hS.F ht⟩) hS.2.2 dXM_held_20 hlocks
set_option maxRecDepth 100000 in
set_option maxHeartbeats 4000000 in
theorem cMheld {l : Launch} {D : va_G} {A : Nat → Prop} {h0 : Nat} {ad : Nat → Nat} {cI cL : ClassId} (hD : mDs A h0 ad cI cL) {post : Int32 → (Nat → Nat → Int32) → (Nat → Nat → Int64) → Int32 → Int64 → Int32 → Prop} {I : Nat → Nat → Int32} {J : Nat → Nat → Int64} {cn : Int32} {cm : Int64} {so : Int32} {a1 : Int32} (h : wMheld post I J cn cm so a1) : Met l yXM_held (.code yXM_held cXM_held 2 (some .int) :: lg_tbl) ({ frames := 2, cells := 0, slots := 0, locals := 45 } : Room) (va_Pc [.ref h0, .int a1] (fxB (mW D h0 ad cI cL (I, J, cn, cm, so)) D vwCl (mTy cI cL))) (va_Qi (fun (r : Int32) (u : mS) => post r u.1 u.2.1 u.2.2.1 u.2.2.2.1 u.2.2.2.2) (fxC (mW D h0 ad cI cL)) A) 0 0 A := by
  refine fx_start (by decide +kernel) (Nat.le_of_ble_eq_true rfl) ?_
  intro p e s m below meth c ls hx hb hr hml hown hts hlocks hnm hB hl
  exact sMheld_in ⟨hx, hb, hr, hml, hown, hts, hlocks, hB.2.1, hB.2.2, hD⟩ I J cn cm so a1 h _ _ ls hB.1 va_S.rf hl
def wMwaiting (post : Int32 → (Nat → Nat → Int32) → (Nat → Nat → Int64) → Int32 → Int64 → Int32 → Prop) (I : Nat → Nat → Int32) (J : Nat → Nat → Int64) (cn : Int32) (cm : Int64) (so : Int32) (a1 : Int32) : Prop := (wMisReplica (fun r1 I_1 J_1 cn_1 cm_1 so_1 => ((r1 = 0 → (post (-1) I_1 J_1 cn_1 cm_1 so_1)) ∧ (¬ r1 = 0 → (vp_in a1 4 ∧ (post (I_1 6 (Int32.toNatClampNeg a1)) I_1 J_1 cn_1 cm_1 so_1))))) I J cn cm so a1)
set_option maxRecDepth 100000 in
set_option maxHeartbeats 4000000 in
theorem sMwaiting_in {p : Program} {l : Launch} {e : Env} {s : State} {m : MethodId} {args : Array Value} {below : List Frame} {meth : Method} {c : Code} {D : va_G} {A : Nat → Prop} {h0 : Nat} {ad : Nat → Nat} {cI cL : ClassId} {post : Int32 → (Nat → Nat → Int32) → (Nat → Nat → Int64) → Int32 → Int64 → Int32 → Prop} (C0 : mCx p s m args meth c D A h0 ad cI cL cXM_waiting 2 (some .int)) : ∀ (I : Nat → Nat → Int32) (J : Nat → Nat → Int64) (cn : Int32) (cm : Int64) (so : Int32) (a1 : Int32), wMwaiting post I J cn cm so a1 → ∀ (H : Heap) (locs : List Loc) (ls : Array Slot), mW D h0 ad cI cL (I, J, cn, cm, so) H → va_S A s.heap H locs → lv_has ls 2 [(0, .ref h0), (1, .int a1)] → W p l e ({ frames := 1, cells := 0, slots := 0, locals := 20 } : Room) s m args below meth c H locs 0 0 (MQ below (va_Qi (fun (r : Int32) (u : mS) => post r u.1 u.2.1 u.2.2.1 u.2.2.2.1 u.2.2.2.2) (fxC (mW D h0 ad cI cL)) A) args s 0 0 A) (F0 m 0 ls []) := by
  obtain ⟨hx, hb, hr, hml, hown, hts, hlocks, hK, hN, hD⟩ := id C0
  intro I J cn cm so a1 h H locs ls hP hS hl
  replace h : (wMisReplica (fun r1 I_1 J_1 cn_1 cm_1 so_1 => ((r1 = 0 → (post (-1) I_1 J_1 cn_1 cm_1 so_1)) ∧ (¬ r1 = 0 → (vp_in a1 4 ∧ (post (I_1 6 (Int32.toNatClampNeg a1)) I_1 J_1 cn_1 cm_1 so_1))))) I J cn cm so a1) := h
  refine lv_iload_n hx hb dXM_waiting_0 rfl (lv_at hl 1 rfl) ?_
  refine va_calli (va_runS (As := [.int a1]) (rest := []) ⟨hx, hb, hml, hown, hts⟩ (cMisReplica hD h) (fx_cwS 1 hts gw_M_132 hdXM_isReplica ⟨Nat.le_of_ble_eq_true rfl, Nat.le_of_ble_eq_true rfl⟩) (fx_preS hP hK hN) rfl rfl hl.1 rfl (lv_room (Nat.le_of_ble_eq_true rfl)) dXM_waiting_1 ⟨Nat.le_of_ble_eq_true rfl, Nat.le_of_ble_eq_true rfl⟩) hS (fun _ _ q => q) (fun _ q => q) (fun r1 u t H locs ht hvm h hP hz hk hS => ?_)
  rw [fxC, ht] at hP
  obtain ⟨I_1, J_1, cn_1, cm_1, so_1⟩ := u
  dsimp only at h
  refine lv_if_eq (tgt := 16) hx hb dXM_waiting_4 (by decide) (fun c2 => ?_) (fun c2 => ?_)
  · replace h := h.1 c2
    refine lv_iconst (v := (-1)) hx hb dXM_waiting_16 (by decide) ?_
    exact W.iret hx hb hr (fun t ht hW => ⟨⟨_, (I_1, J_1, cn_1, cm_1, so_1), rfl, h, by rw [fxC, ht]; exact hP⟩, hS.F ht⟩) hS.2.2 dXM_waiting_17 hlocks
  · replace h := h.2 c2
    refine lv_aload_n hx hb dXM_waiting_7 rfl (lv_at hl 0 rfl) ?_
    refine mg_waits hx hb hown hts hK hP dXM_waiting_8 ?_
    refine lv_iload_n hx hb dXM_waiting_11 rfl (lv_at hl 1 rfl) ?_
    obtain ⟨h3, h⟩ := h
    refine ma_10 hx hb hK hP h3 dXM_waiting_12 ?_
    refine lv_goto (tgt := 17) hx hb dXM_waiting_13 (by decide) ?_
    exact W.iret hx hb hr (fun t ht hW => ⟨⟨_, (I_1, J_1, cn_1, cm_1, so_1), rfl, h, by rw [fxC, ht]; exact hP⟩, hS.F ht⟩) hS.2.2 dXM_waiting_17 hlocks
set_option maxRecDepth 100000 in
set_option maxHeartbeats 4000000 in
theorem cMwaiting {l : Launch} {D : va_G} {A : Nat → Prop} {h0 : Nat} {ad : Nat → Nat} {cI cL : ClassId} (hD : mDs A h0 ad cI cL) {post : Int32 → (Nat → Nat → Int32) → (Nat → Nat → Int64) → Int32 → Int64 → Int32 → Prop} {I : Nat → Nat → Int32} {J : Nat → Nat → Int64} {cn : Int32} {cm : Int64} {so : Int32} {a1 : Int32} (h : wMwaiting post I J cn cm so a1) : Met l yXM_waiting (.code yXM_waiting cXM_waiting 2 (some .int) :: lg_tbl) ({ frames := 1, cells := 0, slots := 0, locals := 20 } : Room) (va_Pc [.ref h0, .int a1] (fxB (mW D h0 ad cI cL (I, J, cn, cm, so)) D vwCl (mTy cI cL))) (va_Qi (fun (r : Int32) (u : mS) => post r u.1 u.2.1 u.2.2.1 u.2.2.2.1 u.2.2.2.2) (fxC (mW D h0 ad cI cL)) A) 0 0 A := by
  refine fx_start (by decide +kernel) (Nat.le_of_ble_eq_true rfl) ?_
  intro p e s m below meth c ls hx hb hr hml hown hts hlocks hnm hB hl
  exact sMwaiting_in ⟨hx, hb, hr, hml, hown, hts, hlocks, hB.2.1, hB.2.2, hD⟩ I J cn cm so a1 h _ _ ls hB.1 va_S.rf hl
def wMhas (post : Int32 → (Nat → Nat → Int32) → (Nat → Nat → Int64) → Int32 → Int64 → Int32 → Prop) (I : Nat → Nat → Int32) (J : Nat → Nat → Int64) (cn : Int32) (cm : Int64) (so : Int32) (a1 : Int32) (a2 : Int64) : Prop := (wMisReplica (fun r1 I_1 J_1 cn_1 cm_1 so_1 => ((r1 = 0 → (post 0 I_1 J_1 cn_1 cm_1 so_1)) ∧ (¬ r1 = 0 → (vp_in a1 4 ∧ (wMfind (fun r4 I_4 J_4 cn_4 cm_4 so_4 => (wMin (fun r5 I_5 J_5 cn_5 cm_5 so_5 => ((r5 = 0 → (post 0 I_5 J_5 cn_5 cm_5 so_5)) ∧ (¬ r5 = 0 → (post 1 I_5 J_5 cn_5 cm_5 so_5)))) I_4 J_4 cn_4 cm_4 so_4 (J_1 3 (Int32.toNatClampNeg a1)) r4)) I_1 J_1 cn_1 cm_1 so_1 a2))))) I J cn cm so a1)
set_option maxRecDepth 100000 in
set_option maxHeartbeats 4000000 in
theorem sMhas_in {p : Program} {l : Launch} {e : Env} {s : State} {m : MethodId} {args : Array Value} {below : List Frame} {meth : Method} {c : Code} {D : va_G} {A : Nat → Prop} {h0 : Nat} {ad : Nat → Nat} {cI cL : ClassId} {post : Int32 → (Nat → Nat → Int32) → (Nat → Nat → Int64) → Int32 → Int64 → Int32 → Prop} (C0 : mCx p s m args meth c D A h0 ad cI cL cXM_has 4 (some .boolean)) : ∀ (I : Nat → Nat → Int32) (J : Nat → Nat → Int64) (cn : Int32) (cm : Int64) (so : Int32) (a1 : Int32) (a2 : Int64), wMhas post I J cn cm so a1 a2 → ∀ (H : Heap) (locs : List Loc) (ls : Array Slot), mW D h0 ad cI cL (I, J, cn, cm, so) H → va_S A s.heap H locs → lv_has ls 4 [(0, .ref h0), (1, .int a1), (2, .long a2)] → W p l e ({ frames := 1, cells := 0, slots := 0, locals := 24 } : Room) s m args below meth c H locs 0 0 (MQ below (va_Qi (fun (r : Int32) (u : mS) => post r u.1 u.2.1 u.2.2.1 u.2.2.2.1 u.2.2.2.2) (fxC (mW D h0 ad cI cL)) A) args s 0 0 A) (F0 m 0 ls []) := by
  obtain ⟨hx, hb, hr, hml, hown, hts, hlocks, hK, hN, hD⟩ := id C0
  intro I J cn cm so a1 a2 h H locs ls hP hS hl
  replace h : (wMisReplica (fun r1 I_1 J_1 cn_1 cm_1 so_1 => ((r1 = 0 → (post 0 I_1 J_1 cn_1 cm_1 so_1)) ∧ (¬ r1 = 0 → (vp_in a1 4 ∧ (wMfind (fun r4 I_4 J_4 cn_4 cm_4 so_4 => (wMin (fun r5 I_5 J_5 cn_5 cm_5 so_5 => ((r5 = 0 → (post 0 I_5 J_5 cn_5 cm_5 so_5)) ∧ (¬ r5 = 0 → (post 1 I_5 J_5 cn_5 cm_5 so_5)))) I_4 J_4 cn_4 cm_4 so_4 (J_1 3 (Int32.toNatClampNeg a1)) r4)) I_1 J_1 cn_1 cm_1 so_1 a2))))) I J cn cm so a1) := h
  refine lv_iload_n hx hb dXM_has_0 rfl (lv_at hl 1 rfl) ?_
  refine va_calli (va_runS (As := [.int a1]) (rest := []) ⟨hx, hb, hml, hown, hts⟩ (cMisReplica hD h) (fx_cwS 1 hts gw_M_132 hdXM_isReplica ⟨Nat.le_of_ble_eq_true rfl, Nat.le_of_ble_eq_true rfl⟩) (fx_preS hP hK hN) rfl rfl hl.1 rfl (lv_room (Nat.le_of_ble_eq_true rfl)) dXM_has_1 ⟨Nat.le_of_ble_eq_true rfl, Nat.le_of_ble_eq_true rfl⟩) hS (fun _ _ q => q) (fun _ q => q) (fun r1 u t H locs ht hvm h hP hz hk hS => ?_)
  rw [fxC, ht] at hP
  obtain ⟨I_1, J_1, cn_1, cm_1, so_1⟩ := u
  dsimp only at h
  refine lv_if_eq (tgt := 28) hx hb dXM_has_4 (by decide) (fun c2 => ?_) (fun c2 => ?_)
  · replace h := h.1 c2
    refine lv_iconst (v := 0) hx hb dXM_has_28 (by decide) ?_
    exact W.zret hx hb hr rfl (fun t ht hW => ⟨⟨_, (I_1, J_1, cn_1, cm_1, so_1), rfl, h, by rw [fxC, ht]; exact hP⟩, hS.F ht⟩) hS.2.2 dXM_has_29 hlocks
  · replace h := h.2 c2
    refine lv_aload_n hx hb dXM_has_7 rfl (lv_at hl 0 rfl) ?_
    refine mg_holds hx hb hown hts hK hP dXM_has_8 ?_
    refine lv_iload_n hx hb dXM_has_11 rfl (lv_at hl 1 rfl) ?_
    obtain ⟨h3, h⟩ := h
    refine ma_9 hx hb hK hP h3 dXM_has_12 ?_
    refine lv_aload_n hx hb dXM_has_13 rfl (lv_at hl 0 rfl) ?_
    refine lv_lload_n hx hb dXM_has_14 rfl (lv_at hl 2 rfl) ?_
    refine va_calli (va_runV (As := [.long a2]) (rest := [.long (J_1 3 (Int32.toNatClampNeg a1))]) ⟨hx, hb, hml, hown, hts⟩ (cMfind hD h) (fx_cwV 1 hts gw_M_84 hdXM_find ⟨Nat.le_of_ble_eq_true rfl, Nat.le_of_ble_eq_true rfl⟩) (fx_preV (m_recv hK hP) hP hK hN) rfl rfl hl.1 rfl (lv_room (Nat.le_of_ble_eq_true rfl)) dXM_has_15 ⟨Nat.le_of_ble_eq_true rfl, Nat.le_of_ble_eq_true rfl⟩) hS (fun _ _ q => q) (fun _ q => q) (fun r4 u t H locs ht hvm h hP hz hk hS => ?_)
    rw [fxC, ht] at hP
    obtain ⟨I_4, J_4, cn_4, cm_4, so_4⟩ := u
    dsimp only at h
    refine va_calli (va_runS (As := [.long (J_1 3 (Int32.toNatClampNeg a1)), .int r4]) (rest := []) ⟨hx, hb, hml, hown, hts⟩ (cMin hD h) (fx_cwS 2 hts gw_M_88 hdXM_in ⟨Nat.le_of_ble_eq_true rfl, Nat.le_of_ble_eq_true rfl⟩) (fx_preS hP hK hN) rfl rfl hl.1 rfl (lv_room (Nat.le_of_ble_eq_true rfl)) dXM_has_18 ⟨Nat.le_of_ble_eq_true rfl, Nat.le_of_ble_eq_true rfl⟩) hS (fun _ _ q => q) (fun _ q => q) (fun r5 u t H locs ht hvm h hP hz hk hS => ?_)
    rw [fxC, ht] at hP
    obtain ⟨I_5, J_5, cn_5, cm_5, so_5⟩ := u
    dsimp only at h
    refine lv_if_eq (tgt := 28) hx hb dXM_has_21 (by decide) (fun c6 => ?_) (fun c6 => ?_)
    · replace h := h.1 c6
      refine lv_iconst (v := 0) hx hb dXM_has_28 (by decide) ?_
      exact W.zret hx hb hr rfl (fun t ht hW => ⟨⟨_, (I_5, J_5, cn_5, cm_5, so_5), rfl, h, by rw [fxC, ht]; exact hP⟩, hS.F ht⟩) hS.2.2 dXM_has_29 hlocks
    · replace h := h.2 c6
      refine lv_iconst (v := 1) hx hb dXM_has_24 (by decide) ?_
      refine lv_goto (tgt := 29) hx hb dXM_has_25 (by decide) ?_
      exact W.zret hx hb hr rfl (fun t ht hW => ⟨⟨_, (I_5, J_5, cn_5, cm_5, so_5), rfl, h, by rw [fxC, ht]; exact hP⟩, hS.F ht⟩) hS.2.2 dXM_has_29 hlocks
set_option maxRecDepth 100000 in
set_option maxHeartbeats 4000000 in
theorem cMhas {l : Launch} {D : va_G} {A : Nat → Prop} {h0 : Nat} {ad : Nat → Nat} {cI cL : ClassId} (hD : mDs A h0 ad cI cL) {post : Int32 → (Nat → Nat → Int32) → (Nat → Nat → Int64) → Int32 → Int64 → Int32 → Prop} {I : Nat → Nat → Int32} {J : Nat → Nat → Int64} {cn : Int32} {cm : Int64} {so : Int32} {a1 : Int32} {a2 : Int64} (h : wMhas post I J cn cm so a1 a2) : Met l yXM_has (.code yXM_has cXM_has 4 (some .boolean) :: lg_tbl) ({ frames := 1, cells := 0, slots := 0, locals := 24 } : Room) (va_Pc [.ref h0, .int a1, .long a2] (fxB (mW D h0 ad cI cL (I, J, cn, cm, so)) D vwCl (mTy cI cL))) (va_Qi (fun (r : Int32) (u : mS) => post r u.1 u.2.1 u.2.2.1 u.2.2.2.1 u.2.2.2.2) (fxC (mW D h0 ad cI cL)) A) 0 0 A := by
  refine fx_start (by decide +kernel) (Nat.le_of_ble_eq_true rfl) ?_
  intro p e s m below meth c ls hx hb hr hml hown hts hlocks hnm hB hl
  exact sMhas_in ⟨hx, hb, hr, hml, hown, hts, hlocks, hB.2.1, hB.2.2, hD⟩ I J cn cm so a1 a2 h _ _ ls hB.1 va_S.rf hl
def wMhashAt (post : Int64 → (Nat → Nat → Int32) → (Nat → Nat → Int64) → Int32 → Int64 → Int32 → Prop) (I : Nat → Nat → Int32) (J : Nat → Nat → Int64) (cn : Int32) (cm : Int64) (so : Int32) (a1 : Int32) (a2 : Int32) : Prop := (wMplaceOf (fun r1 I_1 J_1 cn_1 cm_1 so_1 => ((0 ≤ r1 → (vp_in r1 40 ∧ (post (J_1 0 (Int32.toNatClampNeg r1)) I_1 J_1 cn_1 cm_1 so_1))) ∧ (¬ 0 ≤ r1 → (post 0 I_1 J_1 cn_1 cm_1 so_1)))) I J cn cm so a1 a2)
set_option maxRecDepth 100000 in
set_option maxHeartbeats 4000000 in
theorem sMhashAt_in {p : Program} {l : Launch} {e : Env} {s : State} {m : MethodId} {args : Array Value} {below : List Frame} {meth : Method} {c : Code} {D : va_G} {A : Nat → Prop} {h0 : Nat} {ad : Nat → Nat} {cI cL : ClassId} {post : Int64 → (Nat → Nat → Int32) → (Nat → Nat → Int64) → Int32 → Int64 → Int32 → Prop} (C0 : mCx p s m args meth c D A h0 ad cI cL cXM_hashAt 4 (some .long)) : ∀ (I : Nat → Nat → Int32) (J : Nat → Nat → Int64) (cn : Int32) (cm : Int64) (so : Int32) (a1 : Int32) (a2 : Int32), wMhashAt post I J cn cm so a1 a2 → ∀ (H : Heap) (locs : List Loc) (ls : Array Slot), mW D h0 ad cI cL (I, J, cn, cm, so) H → va_S A s.heap H locs → lv_has ls 4 [(0, .ref h0), (1, .int a1), (2, .int a2)] → W p l e ({ frames := 3, cells := 0, slots := 0, locals := 70 } : Room) s m args below meth c H locs 0 0 (MQ below (va_Ql (fun (r : Int64) (u : mS) => post r u.1 u.2.1 u.2.2.1 u.2.2.2.1 u.2.2.2.2) (fxC (mW D h0 ad cI cL)) A) args s 0 0 A) (F0 m 0 ls []) := by
  obtain ⟨hx, hb, hr, hml, hown, hts, hlocks, hK, hN, hD⟩ := id C0
  intro I J cn cm so a1 a2 h H locs ls hP hS hl
  replace h : (wMplaceOf (fun r1 I_1 J_1 cn_1 cm_1 so_1 => ((0 ≤ r1 → (vp_in r1 40 ∧ (post (J_1 0 (Int32.toNatClampNeg r1)) I_1 J_1 cn_1 cm_1 so_1))) ∧ (¬ 0 ≤ r1 → (post 0 I_1 J_1 cn_1 cm_1 so_1)))) I J cn cm so a1 a2) := h
  refine lv_aload_n hx hb dXM_hashAt_0 rfl (lv_at hl 0 rfl) ?_
  refine lv_iload_n hx hb dXM_hashAt_1 rfl (lv_at hl 1 rfl) ?_
  refine lv_iload_n hx hb dXM_hashAt_2 rfl (lv_at hl 2 rfl) ?_
  refine va_calli (va_runV (As := [.int a1, .int a2]) (rest := []) ⟨hx, hb, hml, hown, hts⟩ (cMplaceOf hD h) (fx_cwV 2 hts gw_M_176 hdXM_placeOf ⟨Nat.le_of_ble_eq_true rfl, Nat.le_of_ble_eq_true rfl⟩) (fx_preV (m_recv hK hP) hP hK hN) rfl rfl hl.1 rfl (lv_room (Nat.le_of_ble_eq_true rfl)) dXM_hashAt_3 ⟨Nat.le_of_ble_eq_true rfl, Nat.le_of_ble_eq_true rfl⟩) hS (fun _ _ q => q) (fun _ q => q) (fun r1 u t H locs ht hvm h hP hz hk hS => ?_)
  rw [fxC, ht] at hP
  obtain ⟨I_1, J_1, cn_1, cm_1, so_1⟩ := u
  dsimp only at h
  refine lv_istore_n (lv' := [(3, .int r1), (0, .ref h0), (1, .int a1), (2, .int a2)]) hx hb dXM_hashAt_6 rfl hl (by decide) rfl (fun ls hl => ?_)
  refine lv_iload_n hx hb dXM_hashAt_7 rfl (lv_at hl 0 rfl) ?_
  refine lv_if_ge (tgt := 15) hx hb dXM_hashAt_8 (by decide) (fun c2 => ?_) (fun c2 => ?_)
  · replace h := h.1 c2
    refine lv_aload_n hx hb dXM_hashAt_15 rfl (lv_at hl 1 rfl) ?_
    refine mg_hash hx hb hown hts hK hP dXM_hashAt_16 ?_
    refine lv_iload_n hx hb dXM_hashAt_19 rfl (lv_at hl 0 rfl) ?_
    obtain ⟨h3, h⟩ := h
    refine ma_0 hx hb hK hP h3 dXM_hashAt_20 ?_
    exact W.lret hx hb hr (fun t ht hW => ⟨⟨_, (I_1, J_1, cn_1, cm_1, so_1), rfl, h, by rw [fxC, ht]; exact hP⟩, hS.F ht⟩) hS.2.2 dXM_hashAt_21 hlocks
  · replace h := h.2 c2
    refine lv_lconst (v := 0) hx hb dXM_hashAt_11 (by decide) ?_
    refine lv_goto (tgt := 21) hx hb dXM_hashAt_12 (by decide) ?_
    exact W.lret hx hb hr (fun t ht hW => ⟨⟨_, (I_1, J_1, cn_1, cm_1, so_1), rfl, h, by rw [fxC, ht]; exact hP⟩, hS.F ht⟩) hS.2.2 dXM_hashAt_21 hlocks
set_option maxRecDepth 100000 in
set_option maxHeartbeats 4000000 in
theorem cMhashAt {l : Launch} {D : va_G} {A : Nat → Prop} {h0 : Nat} {ad : Nat → Nat} {cI cL : ClassId} (hD : mDs A h0 ad cI cL) {post : Int64 → (Nat → Nat → Int32) → (Nat → Nat → Int64) → Int32 → Int64 → Int32 → Prop} {I : Nat → Nat → Int32} {J : Nat → Nat → Int64} {cn : Int32} {cm : Int64} {so : Int32} {a1 : Int32} {a2 : Int32} (h : wMhashAt post I J cn cm so a1 a2) : Met l yXM_hashAt (.code yXM_hashAt cXM_hashAt 4 (some .long) :: lg_tbl) ({ frames := 3, cells := 0, slots := 0, locals := 70 } : Room) (va_Pc [.ref h0, .int a1, .int a2] (fxB (mW D h0 ad cI cL (I, J, cn, cm, so)) D vwCl (mTy cI cL))) (va_Ql (fun (r : Int64) (u : mS) => post r u.1 u.2.1 u.2.2.1 u.2.2.2.1 u.2.2.2.2) (fxC (mW D h0 ad cI cL)) A) 0 0 A := by
  refine fx_start (by decide +kernel) (Nat.le_of_ble_eq_true rfl) ?_
  intro p e s m below meth c ls hx hb hr hml hown hts hlocks hnm hB hl
  exact sMhashAt_in ⟨hx, hb, hr, hml, hown, hts, hlocks, hB.2.1, hB.2.2, hD⟩ I J cn cm so a1 a2 h _ _ ls hB.1 va_S.rf hl
def wMabout (post : Int32 → (Nat → Nat → Int32) → (Nat → Nat → Int64) → Int32 → Int64 → Int32 → Prop) (I : Nat → Nat → Int32) (J : Nat → Nat → Int64) (cn : Int32) (cm : Int64) (so : Int32) (a1 : Int32) (a2 : Int32) (a3 : Int32) : Prop := (wMplaceOf (fun r1 I_1 J_1 cn_1 cm_1 so_1 => ((r1 < 0 → (post (-1) I_1 J_1 cn_1 cm_1 so_1)) ∧ (¬ r1 < 0 → ((a3 < 0 → (post (-1) I_1 J_1 cn_1 cm_1 so_1)) ∧ (¬ a3 < 0 → ((a3 ≤ 5 → ((2 ≤ a3 → ((4 ≤ a3 → ((¬ a3 = 4 → (vp_in r1 40 ∧ (post (I_1 5 (Int32.toNatClampNeg r1)) I_1 J_1 cn_1 cm_1 so_1))) ∧ (a3 = 4 → (vp_in r1 40 ∧ (post (I_1 4 (Int32.toNatClampNeg r1)) I_1 J_1 cn_1 cm_1 so_1))))) ∧ (¬ 4 ≤ a3 → ((¬ a3 = 2 → (vp_in r1 40 ∧ (post (I_1 3 (Int32.toNatClampNeg r1)) I_1 J_1 cn_1 cm_1 so_1))) ∧ (a3 = 2 → (vp_in r1 40 ∧ (post (I_1 2 (Int32.toNatClampNeg r1)) I_1 J_1 cn_1 cm_1 so_1))))))) ∧ (¬ 2 ≤ a3 → ((¬ a3 = 0 → (vp_in r1 40 ∧ (post (I_1 1 (Int32.toNatClampNeg r1)) I_1 J_1 cn_1 cm_1 so_1))) ∧ (a3 = 0 → (vp_in r1 40 ∧ (post (I_1 0 (Int32.toNatClampNeg r1)) I_1 J_1 cn_1 cm_1 so_1))))))) ∧ (¬ a3 ≤ 5 → (post (-1) I_1 J_1 cn_1 cm_1 so_1)))))))) I J cn cm so a1 a2)
set_option maxRecDepth 100000 in
set_option maxHeartbeats 4000000 in
theorem sMabout_in {p : Program} {l : Launch} {e : Env} {s : State} {m : MethodId} {args : Array Value} {below : List Frame} {meth : Method} {c : Code} {D : va_G} {A : Nat → Prop} {h0 : Nat} {ad : Nat → Nat} {cI cL : ClassId} {post : Int32 → (Nat → Nat → Int32) → (Nat → Nat → Int64) → Int32 → Int64 → Int32 → Prop} (C0 : mCx p s m args meth c D A h0 ad cI cL cXM_about 5 (some .int)) : ∀ (I : Nat → Nat → Int32) (J : Nat → Nat → Int64) (cn : Int32) (cm : Int64) (so : Int32) (a1 : Int32) (a2 : Int32) (a3 : Int32), wMabout post I J cn cm so a1 a2 a3 → ∀ (H : Heap) (locs : List Loc) (ls : Array Slot), mW D h0 ad cI cL (I, J, cn, cm, so) H → va_S A s.heap H locs → lv_has ls 5 [(0, .ref h0), (1, .int a1), (2, .int a2), (3, .int a3)] → W p l e ({ frames := 3, cells := 0, slots := 0, locals := 70 } : Room) s m args below meth c H locs 0 0 (MQ below (va_Qi (fun (r : Int32) (u : mS) => post r u.1 u.2.1 u.2.2.1 u.2.2.2.1 u.2.2.2.2) (fxC (mW D h0 ad cI cL)) A) args s 0 0 A) (F0 m 0 ls []) := by
  obtain ⟨hx, hb, hr, hml, hown, hts, hlocks, hK, hN, hD⟩ := id C0
  intro I J cn cm so a1 a2 a3 h H locs ls hP hS hl
  replace h : (wMplaceOf (fun r1 I_1 J_1 cn_1 cm_1 so_1 => ((r1 < 0 → (post (-1) I_1 J_1 cn_1 cm_1 so_1)) ∧ (¬ r1 < 0 → ((a3 < 0 → (post (-1) I_1 J_1 cn_1 cm_1 so_1)) ∧ (¬ a3 < 0 → ((a3 ≤ 5 → ((2 ≤ a3 → ((4 ≤ a3 → ((¬ a3 = 4 → (vp_in r1 40 ∧ (post (I_1 5 (Int32.toNatClampNeg r1)) I_1 J_1 cn_1 cm_1 so_1))) ∧ (a3 = 4 → (vp_in r1 40 ∧ (post (I_1 4 (Int32.toNatClampNeg r1)) I_1 J_1 cn_1 cm_1 so_1))))) ∧ (¬ 4 ≤ a3 → ((¬ a3 = 2 → (vp_in r1 40 ∧ (post (I_1 3 (Int32.toNatClampNeg r1)) I_1 J_1 cn_1 cm_1 so_1))) ∧ (a3 = 2 → (vp_in r1 40 ∧ (post (I_1 2 (Int32.toNatClampNeg r1)) I_1 J_1 cn_1 cm_1 so_1))))))) ∧ (¬ 2 ≤ a3 → ((¬ a3 = 0 → (vp_in r1 40 ∧ (post (I_1 1 (Int32.toNatClampNeg r1)) I_1 J_1 cn_1 cm_1 so_1))) ∧ (a3 = 0 → (vp_in r1 40 ∧ (post (I_1 0 (Int32.toNatClampNeg r1)) I_1 J_1 cn_1 cm_1 so_1))))))) ∧ (¬ a3 ≤ 5 → (post (-1) I_1 J_1 cn_1 cm_1 so_1)))))))) I J cn cm so a1 a2) := h
  refine lv_aload_n hx hb dXM_about_0 rfl (lv_at hl 0 rfl) ?_
  refine lv_iload_n hx hb dXM_about_1 rfl (lv_at hl 1 rfl) ?_
  refine lv_iload_n hx hb dXM_about_2 rfl (lv_at hl 2 rfl) ?_
  refine va_calli (va_runV (As := [.int a1, .int a2]) (rest := []) ⟨hx, hb, hml, hown, hts⟩ (cMplaceOf hD h) (fx_cwV 2 hts gw_M_176 hdXM_placeOf ⟨Nat.le_of_ble_eq_true rfl, Nat.le_of_ble_eq_true rfl⟩) (fx_preV (m_recv hK hP) hP hK hN) rfl rfl hl.1 rfl (lv_room (Nat.le_of_ble_eq_true rfl)) dXM_about_3 ⟨Nat.le_of_ble_eq_true rfl, Nat.le_of_ble_eq_true rfl⟩) hS (fun _ _ q => q) (fun _ q => q) (fun r1 u t H locs ht hvm h hP hz hk hS => ?_)
  rw [fxC, ht] at hP
  obtain ⟨I_1, J_1, cn_1, cm_1, so_1⟩ := u
  dsimp only at h
  refine lv_istore (lv' := [(4, .int r1), (0, .ref h0), (1, .int a1), (2, .int a2), (3, .int a3)]) hx hb dXM_about_6 hl (by decide) rfl (fun ls hl => ?_)
  refine lv_iload hx hb dXM_about_8 (lv_at hl 0 rfl) ?_
  refine lv_if_lt (tgt := 22) hx hb dXM_about_10 (by decide) (fun c2 => ?_) (fun c2 => ?_)
  · replace h := h.1 c2
    refine lv_iconst (v := (-1)) hx hb dXM_about_22 (by decide) ?_
    exact W.iret hx hb hr (fun t ht hW => ⟨⟨_, (I_1, J_1, cn_1, cm_1, so_1), rfl, h, by rw [fxC, ht]; exact hP⟩, hS.F ht⟩) hS.2.2 dXM_about_23 hlocks
  · replace h := h.2 c2
    refine lv_iload_n hx hb dXM_about_13 rfl (lv_at hl 4 rfl) ?_
    refine lv_if_lt (tgt := 22) hx hb dXM_about_14 (by decide) (fun c3 => ?_) (fun c3 => ?_)
    · replace h := h.1 c3
      refine lv_iconst (v := (-1)) hx hb dXM_about_22 (by decide) ?_
      exact W.iret hx hb hr (fun t ht hW => ⟨⟨_, (I_1, J_1, cn_1, cm_1, so_1), rfl, h, by rw [fxC, ht]; exact hP⟩, hS.F ht⟩) hS.2.2 dXM_about_23 hlocks
    · replace h := h.2 c3
      refine lv_iload_n hx hb dXM_about_17 rfl (lv_at hl 4 rfl) ?_
      refine lv_iconst (v := 5) hx hb dXM_about_18 (by decide) ?_
      refine lv_icmp_le (tgt := 24) hx hb dXM_about_19 (by decide) (fun c4 => ?_) (fun c4 => ?_)
      · replace h := h.1 c4
        refine lv_iload_n hx hb dXM_about_24 rfl (lv_at hl 4 rfl) ?_
        refine lv_iconst (v := 2) hx hb dXM_about_25 (by decide) ?_
        refine lv_icmp_ge (tgt := 51) hx hb dXM_about_26 (by decide) (fun c5 => ?_) (fun c5 => ?_)
        · replace h := h.1 c5
          refine lv_iload_n hx hb dXM_about_51 rfl (lv_at hl 4 rfl) ?_
          refine lv_iconst (v := 4) hx hb dXM_about_52 (by decide) ?_
          refine lv_icmp_ge (tgt := 79) hx hb dXM_about_53 (by decide) (fun c6 => ?_) (fun c6 => ?_)
          · replace h := h.1 c6
            refine lv_iload_n hx hb dXM_about_79 rfl (lv_at hl 4 rfl) ?_
            refine lv_iconst (v := 4) hx hb dXM_about_80 (by decide) ?_
            refine lv_icmp_ne (tgt := 94) hx hb dXM_about_81 (by decide) (fun c7 => ?_) (fun c7 => ?_)
            · replace h := h.1 c7
              refine lv_aload_n hx hb dXM_about_94 rfl (lv_at hl 1 rfl) ?_
              refine mg_depth hx hb hown hts hK hP dXM_about_95 ?_
              refine lv_iload hx hb dXM_about_98 (lv_at hl 0 rfl) ?_
              obtain ⟨h8, h⟩ := h
              refine ma_8 hx hb hK hP h8 dXM_about_100 ?_
              exact W.iret hx hb hr (fun t ht hW => ⟨⟨_, (I_1, J_1, cn_1, cm_1, so_1), rfl, h, by rw [fxC, ht]; exact hP⟩, hS.F ht⟩) hS.2.2 dXM_about_101 hlocks
            · replace h := h.2 c7
              refine lv_aload_n hx hb dXM_about_84 rfl (lv_at hl 1 rfl) ?_
              refine mg_links hx hb hown hts hK hP dXM_about_85 ?_
              refine lv_iload hx hb dXM_about_88 (lv_at hl 0 rfl) ?_
              obtain ⟨h9, h⟩ := h
              refine ma_5 hx hb hK hP h9 dXM_about_90 ?_
              refine lv_goto (tgt := 101) hx hb dXM_about_91 (by decide) ?_
              exact W.iret hx hb hr (fun t ht hW => ⟨⟨_, (I_1, J_1, cn_1, cm_1, so_1), rfl, h, by rw [fxC, ht]; exact hP⟩, hS.F ht⟩) hS.2.2 dXM_about_101 hlocks
          · replace h := h.2 c6
            refine lv_iload_n hx hb dXM_about_56 rfl (lv_at hl 4 rfl) ?_
            refine lv_iconst (v := 2) hx hb dXM_about_57 (by decide) ?_
            refine lv_icmp_ne (tgt := 71) hx hb dXM_about_58 (by decide) (fun c10 => ?_) (fun c10 => ?_)
            · replace h := h.1 c10
              refine lv_aload_n hx hb dXM_about_71 rfl (lv_at hl 1 rfl) ?_
              refine mg_value hx hb hown hts hK hP dXM_about_72 ?_
              refine lv_iload hx hb dXM_about_75 (lv_at hl 0 rfl) ?_
              obtain ⟨h11, h⟩ := h
              refine ma_4 hx hb hK hP h11 dXM_about_77 ?_
              exact W.iret hx hb hr (fun t ht hW => ⟨⟨_, (I_1, J_1, cn_1, cm_1, so_1), rfl, h, by rw [fxC, ht]; exact hP⟩, hS.F ht⟩) hS.2.2 dXM_about_78 hlocks
            · replace h := h.2 c10
              refine lv_aload_n hx hb dXM_about_61 rfl (lv_at hl 1 rfl) ?_
              refine mg_key hx hb hown hts hK hP dXM_about_62 ?_
              refine lv_iload hx hb dXM_about_65 (lv_at hl 0 rfl) ?_
              obtain ⟨h12, h⟩ := h
              refine ma_3 hx hb hK hP h12 dXM_about_67 ?_
              refine lv_goto (tgt := 78) hx hb dXM_about_68 (by decide) ?_
              exact W.iret hx hb hr (fun t ht hW => ⟨⟨_, (I_1, J_1, cn_1, cm_1, so_1), rfl, h, by rw [fxC, ht]; exact hP⟩, hS.F ht⟩) hS.2.2 dXM_about_78 hlocks
        · replace h := h.2 c5
          refine lv_iload_n hx hb dXM_about_29 rfl (lv_at hl 4 rfl) ?_
          refine lv_if_ne (tgt := 43) hx hb dXM_about_30 (by decide) (fun c13 => ?_) (fun c13 => ?_)
          · replace h := h.1 c13
            refine lv_aload_n hx hb dXM_about_43 rfl (lv_at hl 1 rfl) ?_
            refine mg_kind hx hb hown hts hK hP dXM_about_44 ?_
            refine lv_iload hx hb dXM_about_47 (lv_at hl 0 rfl) ?_
            obtain ⟨h14, h⟩ := h
            refine ma_2 hx hb hK hP h14 dXM_about_49 ?_
            exact W.iret hx hb hr (fun t ht hW => ⟨⟨_, (I_1, J_1, cn_1, cm_1, so_1), rfl, h, by rw [fxC, ht]; exact hP⟩, hS.F ht⟩) hS.2.2 dXM_about_50 hlocks
          · replace h := h.2 c13
            refine lv_aload_n hx hb dXM_about_33 rfl (lv_at hl 1 rfl) ?_
            refine mg_author hx hb hown hts hK hP dXM_about_34 ?_
            refine lv_iload hx hb dXM_about_37 (lv_at hl 0 rfl) ?_
            obtain ⟨h15, h⟩ := h
            refine ma_1 hx hb hK hP h15 dXM_about_39 ?_
            refine lv_goto (tgt := 50) hx hb dXM_about_40 (by decide) ?_
            exact W.iret hx hb hr (fun t ht hW => ⟨⟨_, (I_1, J_1, cn_1, cm_1, so_1), rfl, h, by rw [fxC, ht]; exact hP⟩, hS.F ht⟩) hS.2.2 dXM_about_50 hlocks
      · replace h := h.2 c4
        refine lv_iconst (v := (-1)) hx hb dXM_about_22 (by decide) ?_
        exact W.iret hx hb hr (fun t ht hW => ⟨⟨_, (I_1, J_1, cn_1, cm_1, so_1), rfl, h, by rw [fxC, ht]; exact hP⟩, hS.F ht⟩) hS.2.2 dXM_about_23 hlocks
set_option maxRecDepth 100000 in
set_option maxHeartbeats 4000000 in
theorem cMabout {l : Launch} {D : va_G} {A : Nat → Prop} {h0 : Nat} {ad : Nat → Nat} {cI cL : ClassId} (hD : mDs A h0 ad cI cL) {post : Int32 → (Nat → Nat → Int32) → (Nat → Nat → Int64) → Int32 → Int64 → Int32 → Prop} {I : Nat → Nat → Int32} {J : Nat → Nat → Int64} {cn : Int32} {cm : Int64} {so : Int32} {a1 : Int32} {a2 : Int32} {a3 : Int32} (h : wMabout post I J cn cm so a1 a2 a3) : Met l yXM_about (.code yXM_about cXM_about 5 (some .int) :: lg_tbl) ({ frames := 3, cells := 0, slots := 0, locals := 70 } : Room) (va_Pc [.ref h0, .int a1, .int a2, .int a3] (fxB (mW D h0 ad cI cL (I, J, cn, cm, so)) D vwCl (mTy cI cL))) (va_Qi (fun (r : Int32) (u : mS) => post r u.1 u.2.1 u.2.2.1 u.2.2.2.1 u.2.2.2.2) (fxC (mW D h0 ad cI cL)) A) 0 0 A := by
  refine fx_start (by decide +kernel) (Nat.le_of_ble_eq_true rfl) ?_
  intro p e s m below meth c ls hx hb hr hml hown hts hlocks hnm hB hl
  exact sMabout_in ⟨hx, hb, hr, hml, hown, hts, hlocks, hB.2.1, hB.2.2, hD⟩ I J cn cm so a1 a2 a3 h _ _ ls hB.1 va_S.rf hl
