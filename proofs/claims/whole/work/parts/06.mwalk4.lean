def wMarrive_91 (post : Int32 → (Nat → Nat → Int32) → (Nat → Nat → Int64) → Int32 → Int64 → Int32 → Prop) (I : Nat → Nat → Int32) (J : Nat → Nat → Int64) (cn : Int32) (cm : Int64) (so : Int32) (v1 : Int32) (t0 : Int32) : Prop := (vp_in v1 4 ∧ (vp_in v1 4 ∧ ∀ J19, J19 = mj_up J 3 (Int32.toNatClampNeg v1) ((J 3 (Int32.toNatClampNeg v1)) ||| (hj_shl 1 t0)) → (post 1 I J19 cn cm so)))
def wMarrive_79 (post : Int32 → (Nat → Nat → Int32) → (Nat → Nat → Int64) → Int32 → Int64 → Int32 → Prop) (I : Nat → Nat → Int32) (J : Nat → Nat → Int64) (cn : Int32) (cm : Int64) (so : Int32) (v1 : Int32) (v2 : Int32) : Prop := ((0 ≤ v2 → (wMarrive_91 post  I J cn cm so v1 v2)) ∧ (¬ 0 ≤ v2 → (wMenter (fun r17 I_17 J_17 cn_17 cm_17 so_17 => (wMarrive_91 post  I_17 J_17 cn_17 cm_17 so_17 v1 r17)) I J cn cm so )))
def wMarrive_33 (post : Int32 → (Nat → Nat → Int32) → (Nat → Nat → Int64) → Int32 → Int64 → Int32 → Prop) (I : Nat → Nat → Int32) (J : Nat → Nat → Int64) (cn : Int32) (cm : Int64) (so : Int32) (v1 : Int32) (v2 : Int32) : Prop := (wMinShape (fun r7 I_7 J_7 cn_7 cm_7 so_7 => ((¬ r7 = 0 → (wMlinksHeld (fun r9 I_9 J_9 cn_9 cm_9 so_9 => ((¬ r9 = 0 → (wMisRight (fun r11 I_11 J_11 cn_11 cm_11 so_11 => ((r11 = 0 → (post 3 I_11 J_11 cn_11 cm_11 so_11)) ∧ (¬ r11 = 0 → ((0 ≤ v2 → (wMarrive_79 post  I_11 J_11 cn_11 cm_11 so_11 v1 v2)) ∧ (¬ 0 ≤ v2 → ((¬ cn_11 = 40 → (wMarrive_79 post  I_11 J_11 cn_11 cm_11 so_11 v1 v2)) ∧ (cn_11 = 40 → (post 3 I_11 J_11 cn_11 cm_11 so_11)))))))) I_9 J_9 cn_9 cm_9 so_9 )) ∧ (r9 = 0 → (wMwaitAt (fun I_15 J_15 cn_15 cm_15 so_15 => (post 2 I_15 J_15 cn_15 cm_15 so_15)) I_9 J_9 cn_9 cm_9 so_9 v1)))) I_7 J_7 cn_7 cm_7 so_7 v1)) ∧ (r7 = 0 → (post 3 I_7 J_7 cn_7 cm_7 so_7)))) I J cn cm so )
def wMarrive (post : Int32 → (Nat → Nat → Int32) → (Nat → Nat → Int64) → Int32 → Int64 → Int32 → Prop) (I : Nat → Nat → Int32) (J : Nat → Nat → Int64) (cn : Int32) (cm : Int64) (so : Int32) (a1 : Int32) : Prop := (wMfind (fun r1 I_1 J_1 cn_1 cm_1 so_1 => (vp_in a1 4 ∧ (wMin (fun r3 I_3 J_3 cn_3 cm_3 so_3 => ((r3 = 0 → ((r1 < 0 → (wMarrive_33 post  I_3 J_3 cn_3 cm_3 so_3 a1 r1)) ∧ (¬ r1 < 0 → (wMbecome (fun I_6 J_6 cn_6 cm_6 so_6 => (wMarrive_33 post  I_6 J_6 cn_6 cm_6 so_6 a1 r1)) I_3 J_3 cn_3 cm_3 so_3 r1)))) ∧ (¬ r3 = 0 → (post 0 I_3 J_3 cn_3 cm_3 so_3)))) I_1 J_1 cn_1 cm_1 so_1 (J_1 3 (Int32.toNatClampNeg a1)) r1))) I J cn cm so cm)
set_option maxRecDepth 100000 in
set_option maxHeartbeats 4000000 in
theorem sMarrive_91 {p : Program} {l : Launch} {e : Env} {s : State} {m : MethodId} {args : Array Value} {below : List Frame} {meth : Method} {c : Code} {D : va_G} {A : Nat → Prop} {h0 : Nat} {ad : Nat → Nat} {cI cL : ClassId} {post : Int32 → (Nat → Nat → Int32) → (Nat → Nat → Int64) → Int32 → Int64 → Int32 → Prop} (C0 : mCx p s m args meth c D A h0 ad cI cL cXM_arrive 4 (some .int)) : ∀ (I : Nat → Nat → Int32) (J : Nat → Nat → Int64) (cn : Int32) (cm : Int64) (so : Int32) (v1 : Int32) (t0 : Int32), wMarrive_91 post  I J cn cm so v1 t0 → ∀ (H : Heap) (locs : List Loc) (ls : Array Slot), mW D h0 ad cI cL (I, J, cn, cm, so) H → va_S A s.heap H locs → lv_has ls 4 [(0, .ref h0), (1, .int v1)] → W p l e ({ frames := 3, cells := 0, slots := 0, locals := 75 } : Room) s m args below meth c H locs 0 0 (MQ below (va_Qi (fun (r : Int32) (u : mS) => post r u.1 u.2.1 u.2.2.1 u.2.2.2.1 u.2.2.2.2) (fxC (mW D h0 ad cI cL)) A) args s 0 0 A) (F0 m 91 ls [.int t0]) := by
  obtain ⟨hx, hb, hr, hml, hown, hts, hlocks, hK, hN, hD⟩ := id C0
  intro I J cn cm so v1 t0 h H locs ls hP hS hl
  replace h : (vp_in v1 4 ∧ (vp_in v1 4 ∧ ∀ J19, J19 = mj_up J 3 (Int32.toNatClampNeg v1) ((J 3 (Int32.toNatClampNeg v1)) ||| (hj_shl 1 t0)) → (post 1 I J19 cn cm so))) := h
  refine lv_istore_n (lv' := [(3, .int t0), (0, .ref h0), (1, .int v1)]) hx hb dXM_arrive_91 rfl hl (by decide) rfl (fun ls hl => ?_)
  refine lv_aload_n hx hb dXM_arrive_92 rfl (lv_at hl 1 rfl) ?_
  refine mg_holds hx hb hown hts hK hP dXM_arrive_93 ?_
  refine lv_iload_n hx hb dXM_arrive_96 rfl (lv_at hl 2 rfl) ?_
  refine lv_aload_n hx hb dXM_arrive_97 rfl (lv_at hl 1 rfl) ?_
  refine mg_holds hx hb hown hts hK hP dXM_arrive_98 ?_
  refine lv_iload_n hx hb dXM_arrive_101 rfl (lv_at hl 2 rfl) ?_
  obtain ⟨h18, h⟩ := h
  refine ma_9 hx hb hK hP h18 dXM_arrive_102 ?_
  refine lv_lconst (v := 1) hx hb dXM_arrive_103 (by decide) ?_
  refine lv_iload_n hx hb dXM_arrive_104 rfl (lv_at hl 0 rfl) ?_
  refine lv_lshl (v := hj_shl 1 t0) hx hb dXM_arrive_105 rfl ?_
  refine lv_lor hx hb dXM_arrive_106 ?_
  obtain ⟨h20, h⟩ := h
  obtain ⟨J19, eJ19⟩ : ∃ y, y = mj_up J 3 (Int32.toNatClampNeg v1) ((J 3 (Int32.toNatClampNeg v1)) ||| (hj_shl 1 t0)) := ⟨_, rfl⟩
  replace h := h J19 eJ19
  refine ms_9 hx hb hK hD hP hS h20 dXM_arrive_107 (fun H locs hP hS => ?_)
  rw [← eJ19] at hP
  refine lv_iconst (v := 1) hx hb dXM_arrive_108 (by decide) ?_
  exact W.iret hx hb hr (fun t ht hW => ⟨⟨_, (I, J19, cn, cm, so), rfl, h, by rw [fxC, ht]; exact hP⟩, hS.F ht⟩) hS.2.2 dXM_arrive_109 hlocks
set_option maxRecDepth 100000 in
set_option maxHeartbeats 4000000 in
theorem sMarrive_79 {p : Program} {l : Launch} {e : Env} {s : State} {m : MethodId} {args : Array Value} {below : List Frame} {meth : Method} {c : Code} {D : va_G} {A : Nat → Prop} {h0 : Nat} {ad : Nat → Nat} {cI cL : ClassId} {post : Int32 → (Nat → Nat → Int32) → (Nat → Nat → Int64) → Int32 → Int64 → Int32 → Prop} (C0 : mCx p s m args meth c D A h0 ad cI cL cXM_arrive 4 (some .int)) : ∀ (I : Nat → Nat → Int32) (J : Nat → Nat → Int64) (cn : Int32) (cm : Int64) (so : Int32) (v1 : Int32) (v2 : Int32), wMarrive_79 post  I J cn cm so v1 v2 → ∀ (H : Heap) (locs : List Loc) (ls : Array Slot), mW D h0 ad cI cL (I, J, cn, cm, so) H → va_S A s.heap H locs → lv_has ls 4 [(0, .ref h0), (1, .int v1), (2, .int v2)] → W p l e ({ frames := 3, cells := 0, slots := 0, locals := 75 } : Room) s m args below meth c H locs 0 0 (MQ below (va_Qi (fun (r : Int32) (u : mS) => post r u.1 u.2.1 u.2.2.1 u.2.2.2.1 u.2.2.2.2) (fxC (mW D h0 ad cI cL)) A) args s 0 0 A) (F0 m 79 ls []) := by
  obtain ⟨hx, hb, hr, hml, hown, hts, hlocks, hK, hN, hD⟩ := id C0
  intro I J cn cm so v1 v2 h H locs ls hP hS hl
  replace h : ((0 ≤ v2 → (wMarrive_91 post  I J cn cm so v1 v2)) ∧ (¬ 0 ≤ v2 → (wMenter (fun r17 I_17 J_17 cn_17 cm_17 so_17 => (wMarrive_91 post  I_17 J_17 cn_17 cm_17 so_17 v1 r17)) I J cn cm so ))) := h
  refine lv_iload_n hx hb dXM_arrive_79 rfl (lv_at hl 2 rfl) ?_
  refine lv_if_ge (tgt := 90) hx hb dXM_arrive_80 (by decide) (fun c16 => ?_) (fun c16 => ?_)
  · replace h := h.1 c16
    refine lv_iload_n hx hb dXM_arrive_90 rfl (lv_at hl 2 rfl) ?_
    exact sMarrive_91  C0  I J cn cm so v1 v2 h H locs ls hP hS (lv_sub hl [0, 1] rfl)
  · replace h := h.2 c16
    refine lv_aload_n hx hb dXM_arrive_83 rfl (lv_at hl 0 rfl) ?_
    refine va_calli (va_runV (As := []) (rest := []) ⟨hx, hb, hml, hown, hts⟩ (cMenter hD h) (fx_cwV 0 hts gw_M_122 hdXM_enter ⟨Nat.le_of_ble_eq_true rfl, Nat.le_of_ble_eq_true rfl⟩) (fx_preV (m_recv hK hP) hP hK hN) rfl rfl hl.1 rfl (lv_room (Nat.le_of_ble_eq_true rfl)) dXM_arrive_84 ⟨Nat.le_of_ble_eq_true rfl, Nat.le_of_ble_eq_true rfl⟩) hS (fun _ _ q => q) (fun _ q => q) (fun r17 u t H locs ht hvm h hP hz hk hS => ?_)
    rw [fxC, ht] at hP
    obtain ⟨I_17, J_17, cn_17, cm_17, so_17⟩ := u
    dsimp only at h
    refine lv_goto (tgt := 91) hx hb dXM_arrive_87 (by decide) ?_
    exact sMarrive_91  C0  I_17 J_17 cn_17 cm_17 so_17 v1 r17 h H locs ls hP hS (lv_sub hl [0, 1] rfl)
set_option maxRecDepth 100000 in
set_option maxHeartbeats 4000000 in
theorem sMarrive_33 {p : Program} {l : Launch} {e : Env} {s : State} {m : MethodId} {args : Array Value} {below : List Frame} {meth : Method} {c : Code} {D : va_G} {A : Nat → Prop} {h0 : Nat} {ad : Nat → Nat} {cI cL : ClassId} {post : Int32 → (Nat → Nat → Int32) → (Nat → Nat → Int64) → Int32 → Int64 → Int32 → Prop} (C0 : mCx p s m args meth c D A h0 ad cI cL cXM_arrive 4 (some .int)) : ∀ (I : Nat → Nat → Int32) (J : Nat → Nat → Int64) (cn : Int32) (cm : Int64) (so : Int32) (v1 : Int32) (v2 : Int32), wMarrive_33 post  I J cn cm so v1 v2 → ∀ (H : Heap) (locs : List Loc) (ls : Array Slot), mW D h0 ad cI cL (I, J, cn, cm, so) H → va_S A s.heap H locs → lv_has ls 4 [(0, .ref h0), (1, .int v1), (2, .int v2)] → W p l e ({ frames := 3, cells := 0, slots := 0, locals := 75 } : Room) s m args below meth c H locs 0 0 (MQ below (va_Qi (fun (r : Int32) (u : mS) => post r u.1 u.2.1 u.2.2.1 u.2.2.2.1 u.2.2.2.2) (fxC (mW D h0 ad cI cL)) A) args s 0 0 A) (F0 m 33 ls []) := by
  obtain ⟨hx, hb, hr, hml, hown, hts, hlocks, hK, hN, hD⟩ := id C0
  intro I J cn cm so v1 v2 h H locs ls hP hS hl
  replace h : (wMinShape (fun r7 I_7 J_7 cn_7 cm_7 so_7 => ((¬ r7 = 0 → (wMlinksHeld (fun r9 I_9 J_9 cn_9 cm_9 so_9 => ((¬ r9 = 0 → (wMisRight (fun r11 I_11 J_11 cn_11 cm_11 so_11 => ((r11 = 0 → (post 3 I_11 J_11 cn_11 cm_11 so_11)) ∧ (¬ r11 = 0 → ((0 ≤ v2 → (wMarrive_79 post  I_11 J_11 cn_11 cm_11 so_11 v1 v2)) ∧ (¬ 0 ≤ v2 → ((¬ cn_11 = 40 → (wMarrive_79 post  I_11 J_11 cn_11 cm_11 so_11 v1 v2)) ∧ (cn_11 = 40 → (post 3 I_11 J_11 cn_11 cm_11 so_11)))))))) I_9 J_9 cn_9 cm_9 so_9 )) ∧ (r9 = 0 → (wMwaitAt (fun I_15 J_15 cn_15 cm_15 so_15 => (post 2 I_15 J_15 cn_15 cm_15 so_15)) I_9 J_9 cn_9 cm_9 so_9 v1)))) I_7 J_7 cn_7 cm_7 so_7 v1)) ∧ (r7 = 0 → (post 3 I_7 J_7 cn_7 cm_7 so_7)))) I J cn cm so ) := h
  refine lv_aload_n hx hb dXM_arrive_33 rfl (lv_at hl 0 rfl) ?_
  refine va_calli (va_runV (As := []) (rest := []) ⟨hx, hb, hml, hown, hts⟩ (cMinShape hD h) (fx_cwV 0 hts gw_M_108 hdXM_inShape ⟨Nat.le_of_ble_eq_true rfl, Nat.le_of_ble_eq_true rfl⟩) (fx_preV (m_recv hK hP) hP hK hN) rfl rfl hl.1 rfl (lv_room (Nat.le_of_ble_eq_true rfl)) dXM_arrive_34 ⟨Nat.le_of_ble_eq_true rfl, Nat.le_of_ble_eq_true rfl⟩) hS (fun _ _ q => q) (fun _ q => q) (fun r7 u t H locs ht hvm h hP hz hk hS => ?_)
  rw [fxC, ht] at hP
  obtain ⟨I_7, J_7, cn_7, cm_7, so_7⟩ := u
  dsimp only at h
  refine lv_if_ne (tgt := 42) hx hb dXM_arrive_37 (by decide) (fun c8 => ?_) (fun c8 => ?_)
  · replace h := h.1 c8
    refine lv_aload_n hx hb dXM_arrive_42 rfl (lv_at hl 0 rfl) ?_
    refine lv_iload_n hx hb dXM_arrive_43 rfl (lv_at hl 1 rfl) ?_
    refine va_calli (va_runV (As := [.int v1]) (rest := []) ⟨hx, hb, hml, hown, hts⟩ (cMlinksHeld hD h) (fx_cwV 1 hts gw_M_112 hdXM_linksHeld ⟨Nat.le_of_ble_eq_true rfl, Nat.le_of_ble_eq_true rfl⟩) (fx_preV (m_recv hK hP) hP hK hN) rfl rfl hl.1 rfl (lv_room (Nat.le_of_ble_eq_true rfl)) dXM_arrive_44 ⟨Nat.le_of_ble_eq_true rfl, Nat.le_of_ble_eq_true rfl⟩) hS (fun _ _ q => q) (fun _ q => q) (fun r9 u t H locs ht hvm h hP hz hk hS => ?_)
    rw [fxC, ht] at hP
    obtain ⟨I_9, J_9, cn_9, cm_9, so_9⟩ := u
    dsimp only at h
    refine lv_if_ne (tgt := 57) hx hb dXM_arrive_47 (by decide) (fun c10 => ?_) (fun c10 => ?_)
    · replace h := h.1 c10
      refine lv_aload_n hx hb dXM_arrive_57 rfl (lv_at hl 0 rfl) ?_
      refine va_calli (va_runV (As := []) (rest := []) ⟨hx, hb, hml, hown, hts⟩ (cMisRight hD h) (fx_cwV 0 hts gw_M_119 hdXM_isRight ⟨Nat.le_of_ble_eq_true rfl, Nat.le_of_ble_eq_true rfl⟩) (fx_preV (m_recv hK hP) hP hK hN) rfl rfl hl.1 rfl (lv_room (Nat.le_of_ble_eq_true rfl)) dXM_arrive_58 ⟨Nat.le_of_ble_eq_true rfl, Nat.le_of_ble_eq_true rfl⟩) hS (fun _ _ q => q) (fun _ q => q) (fun r11 u t H locs ht hvm h hP hz hk hS => ?_)
      rw [fxC, ht] at hP
      obtain ⟨I_11, J_11, cn_11, cm_11, so_11⟩ := u
      dsimp only at h
      refine lv_if_eq (tgt := 77) hx hb dXM_arrive_61 (by decide) (fun c12 => ?_) (fun c12 => ?_)
      · replace h := h.1 c12
        refine lv_iconst (v := 3) hx hb dXM_arrive_77 (by decide) ?_
        exact W.iret hx hb hr (fun t ht hW => ⟨⟨_, (I_11, J_11, cn_11, cm_11, so_11), rfl, h, by rw [fxC, ht]; exact hP⟩, hS.F ht⟩) hS.2.2 dXM_arrive_78 hlocks
      · replace h := h.2 c12
        refine lv_iload_n hx hb dXM_arrive_64 rfl (lv_at hl 2 rfl) ?_
        refine lv_if_ge (tgt := 79) hx hb dXM_arrive_65 (by decide) (fun c13 => ?_) (fun c13 => ?_)
        · replace h := h.1 c13
          exact sMarrive_79  C0  I_11 J_11 cn_11 cm_11 so_11 v1 v2 h H locs ls hP hS (lv_sub hl [0, 1, 2] rfl)
        · replace h := h.2 c13
          refine lv_aload_n hx hb dXM_arrive_68 rfl (lv_at hl 0 rfl) ?_
          refine mg_count hx hb hown hts hK hP dXM_arrive_69 ?_
          refine lv_bipush (v := 40) hx hb dXM_arrive_72 (by decide) ?_
          refine lv_icmp_ne (tgt := 79) hx hb dXM_arrive_74 (by decide) (fun c14 => ?_) (fun c14 => ?_)
          · replace h := h.1 c14
            exact sMarrive_79  C0  I_11 J_11 cn_11 cm_11 so_11 v1 v2 h H locs ls hP hS (lv_sub hl [0, 1, 2] rfl)
          · replace h := h.2 c14
            refine lv_iconst (v := 3) hx hb dXM_arrive_77 (by decide) ?_
            exact W.iret hx hb hr (fun t ht hW => ⟨⟨_, (I_11, J_11, cn_11, cm_11, so_11), rfl, h, by rw [fxC, ht]; exact hP⟩, hS.F ht⟩) hS.2.2 dXM_arrive_78 hlocks
    · replace h := h.2 c10
      refine lv_aload_n hx hb dXM_arrive_50 rfl (lv_at hl 0 rfl) ?_
      refine lv_iload_n hx hb dXM_arrive_51 rfl (lv_at hl 1 rfl) ?_
      refine va_callv (va_runV (As := [.int v1]) (rest := []) ⟨hx, hb, hml, hown, hts⟩ (cMwaitAt hD h) (fx_cwV 1 hts gw_M_116 hdXM_waitAt ⟨Nat.le_of_ble_eq_true rfl, Nat.le_of_ble_eq_true rfl⟩) (fx_preV (m_recv hK hP) hP hK hN) rfl rfl hl.1 rfl (lv_room (Nat.le_of_ble_eq_true rfl)) dXM_arrive_52 ⟨Nat.le_of_ble_eq_true rfl, Nat.le_of_ble_eq_true rfl⟩) hS (fun _ _ q => q) (fun _ q => q) (fun u t H locs ht hvm h hP hz hk hS => ?_)
      rw [fxC, ht] at hP
      obtain ⟨I_15, J_15, cn_15, cm_15, so_15⟩ := u
      dsimp only at h
      refine lv_iconst (v := 2) hx hb dXM_arrive_55 (by decide) ?_
      exact W.iret hx hb hr (fun t ht hW => ⟨⟨_, (I_15, J_15, cn_15, cm_15, so_15), rfl, h, by rw [fxC, ht]; exact hP⟩, hS.F ht⟩) hS.2.2 dXM_arrive_56 hlocks
  · replace h := h.2 c8
    refine lv_iconst (v := 3) hx hb dXM_arrive_40 (by decide) ?_
    exact W.iret hx hb hr (fun t ht hW => ⟨⟨_, (I_7, J_7, cn_7, cm_7, so_7), rfl, h, by rw [fxC, ht]; exact hP⟩, hS.F ht⟩) hS.2.2 dXM_arrive_41 hlocks
set_option maxRecDepth 100000 in
set_option maxHeartbeats 4000000 in
theorem sMarrive_in {p : Program} {l : Launch} {e : Env} {s : State} {m : MethodId} {args : Array Value} {below : List Frame} {meth : Method} {c : Code} {D : va_G} {A : Nat → Prop} {h0 : Nat} {ad : Nat → Nat} {cI cL : ClassId} {post : Int32 → (Nat → Nat → Int32) → (Nat → Nat → Int64) → Int32 → Int64 → Int32 → Prop} (C0 : mCx p s m args meth c D A h0 ad cI cL cXM_arrive 4 (some .int)) : ∀ (I : Nat → Nat → Int32) (J : Nat → Nat → Int64) (cn : Int32) (cm : Int64) (so : Int32) (a1 : Int32), wMarrive post I J cn cm so a1 → ∀ (H : Heap) (locs : List Loc) (ls : Array Slot), mW D h0 ad cI cL (I, J, cn, cm, so) H → va_S A s.heap H locs → lv_has ls 4 [(0, .ref h0), (1, .int a1)] → W p l e ({ frames := 3, cells := 0, slots := 0, locals := 75 } : Room) s m args below meth c H locs 0 0 (MQ below (va_Qi (fun (r : Int32) (u : mS) => post r u.1 u.2.1 u.2.2.1 u.2.2.2.1 u.2.2.2.2) (fxC (mW D h0 ad cI cL)) A) args s 0 0 A) (F0 m 0 ls []) := by
  obtain ⟨hx, hb, hr, hml, hown, hts, hlocks, hK, hN, hD⟩ := id C0
  intro I J cn cm so a1 h H locs ls hP hS hl
  replace h : (wMfind (fun r1 I_1 J_1 cn_1 cm_1 so_1 => (vp_in a1 4 ∧ (wMin (fun r3 I_3 J_3 cn_3 cm_3 so_3 => ((r3 = 0 → ((r1 < 0 → (wMarrive_33 post  I_3 J_3 cn_3 cm_3 so_3 a1 r1)) ∧ (¬ r1 < 0 → (wMbecome (fun I_6 J_6 cn_6 cm_6 so_6 => (wMarrive_33 post  I_6 J_6 cn_6 cm_6 so_6 a1 r1)) I_3 J_3 cn_3 cm_3 so_3 r1)))) ∧ (¬ r3 = 0 → (post 0 I_3 J_3 cn_3 cm_3 so_3)))) I_1 J_1 cn_1 cm_1 so_1 (J_1 3 (Int32.toNatClampNeg a1)) r1))) I J cn cm so cm) := h
  refine lv_aload_n hx hb dXM_arrive_0 rfl (lv_at hl 0 rfl) ?_
  refine lv_aload_n hx hb dXM_arrive_1 rfl (lv_at hl 0 rfl) ?_
  refine mg_coming hx hb hown hts hK hP dXM_arrive_2 ?_
  refine va_calli (va_runV (As := [.long cm]) (rest := []) ⟨hx, hb, hml, hown, hts⟩ (cMfind hD h) (fx_cwV 1 hts gw_M_84 hdXM_find ⟨Nat.le_of_ble_eq_true rfl, Nat.le_of_ble_eq_true rfl⟩) (fx_preV (m_recv hK hP) hP hK hN) rfl rfl hl.1 rfl (lv_room (Nat.le_of_ble_eq_true rfl)) dXM_arrive_5 ⟨Nat.le_of_ble_eq_true rfl, Nat.le_of_ble_eq_true rfl⟩) hS (fun _ _ q => q) (fun _ q => q) (fun r1 u t H locs ht hvm h hP hz hk hS => ?_)
  rw [fxC, ht] at hP
  obtain ⟨I_1, J_1, cn_1, cm_1, so_1⟩ := u
  dsimp only at h
  refine lv_istore_n (lv' := [(2, .int r1), (0, .ref h0), (1, .int a1)]) hx hb dXM_arrive_8 rfl hl (by decide) rfl (fun ls hl => ?_)
  refine lv_aload_n hx hb dXM_arrive_9 rfl (lv_at hl 1 rfl) ?_
  refine mg_holds hx hb hown hts hK hP dXM_arrive_10 ?_
  refine lv_iload_n hx hb dXM_arrive_13 rfl (lv_at hl 2 rfl) ?_
  obtain ⟨h2, h⟩ := h
  refine ma_9 hx hb hK hP h2 dXM_arrive_14 ?_
  refine lv_iload_n hx hb dXM_arrive_15 rfl (lv_at hl 0 rfl) ?_
  refine va_calli (va_runS (As := [.long (J_1 3 (Int32.toNatClampNeg a1)), .int r1]) (rest := []) ⟨hx, hb, hml, hown, hts⟩ (cMin hD h) (fx_cwS 2 hts gw_M_88 hdXM_in ⟨Nat.le_of_ble_eq_true rfl, Nat.le_of_ble_eq_true rfl⟩) (fx_preS hP hK hN) rfl rfl hl.1 rfl (lv_room (Nat.le_of_ble_eq_true rfl)) dXM_arrive_16 ⟨Nat.le_of_ble_eq_true rfl, Nat.le_of_ble_eq_true rfl⟩) hS (fun _ _ q => q) (fun _ q => q) (fun r3 u t H locs ht hvm h hP hz hk hS => ?_)
  rw [fxC, ht] at hP
  obtain ⟨I_3, J_3, cn_3, cm_3, so_3⟩ := u
  dsimp only at h
  refine lv_if_eq (tgt := 24) hx hb dXM_arrive_19 (by decide) (fun c4 => ?_) (fun c4 => ?_)
  · replace h := h.1 c4
    refine lv_iload_n hx hb dXM_arrive_24 rfl (lv_at hl 0 rfl) ?_
    refine lv_if_lt (tgt := 33) hx hb dXM_arrive_25 (by decide) (fun c5 => ?_) (fun c5 => ?_)
    · replace h := h.1 c5
      exact sMarrive_33  C0  I_3 J_3 cn_3 cm_3 so_3 a1 r1 h H locs ls hP hS (lv_sub hl [1, 2, 0] rfl)
    · replace h := h.2 c5
      refine lv_aload_n hx hb dXM_arrive_28 rfl (lv_at hl 1 rfl) ?_
      refine lv_iload_n hx hb dXM_arrive_29 rfl (lv_at hl 0 rfl) ?_
      refine va_callv (va_runV (As := [.int r1]) (rest := []) ⟨hx, hb, hml, hown, hts⟩ (cMbecome hD h) (fx_cwV 1 hts gw_M_104 hdXM_become ⟨Nat.le_of_ble_eq_true rfl, Nat.le_of_ble_eq_true rfl⟩) (fx_preV (m_recv hK hP) hP hK hN) rfl rfl hl.1 rfl (lv_room (Nat.le_of_ble_eq_true rfl)) dXM_arrive_30 ⟨Nat.le_of_ble_eq_true rfl, Nat.le_of_ble_eq_true rfl⟩) hS (fun _ _ q => q) (fun _ q => q) (fun u t H locs ht hvm h hP hz hk hS => ?_)
      rw [fxC, ht] at hP
      obtain ⟨I_6, J_6, cn_6, cm_6, so_6⟩ := u
      dsimp only at h
      exact sMarrive_33  C0  I_6 J_6 cn_6 cm_6 so_6 a1 r1 h H locs ls hP hS (lv_sub hl [1, 2, 0] rfl)
  · replace h := h.2 c4
    refine lv_iconst (v := 0) hx hb dXM_arrive_22 (by decide) ?_
    exact W.iret hx hb hr (fun t ht hW => ⟨⟨_, (I_3, J_3, cn_3, cm_3, so_3), rfl, h, by rw [fxC, ht]; exact hP⟩, hS.F ht⟩) hS.2.2 dXM_arrive_23 hlocks
set_option maxRecDepth 100000 in
set_option maxHeartbeats 4000000 in
theorem cMarrive {l : Launch} {D : va_G} {A : Nat → Prop} {h0 : Nat} {ad : Nat → Nat} {cI cL : ClassId} (hD : mDs A h0 ad cI cL) {post : Int32 → (Nat → Nat → Int32) → (Nat → Nat → Int64) → Int32 → Int64 → Int32 → Prop} {I : Nat → Nat → Int32} {J : Nat → Nat → Int64} {cn : Int32} {cm : Int64} {so : Int32} {a1 : Int32} (h : wMarrive post I J cn cm so a1) : Met l yXM_arrive (.code yXM_arrive cXM_arrive 4 (some .int) :: lg_tbl) ({ frames := 3, cells := 0, slots := 0, locals := 75 } : Room) (va_Pc [.ref h0, .int a1] (fxB (mW D h0 ad cI cL (I, J, cn, cm, so)) D vwCl (mTy cI cL))) (va_Qi (fun (r : Int32) (u : mS) => post r u.1 u.2.1 u.2.2.1 u.2.2.2.1 u.2.2.2.2) (fxC (mW D h0 ad cI cL)) A) 0 0 A := by
  refine fx_start (by decide +kernel) (Nat.le_of_ble_eq_true rfl) ?_
  intro p e s m below meth c ls hx hb hr hml hown hts hlocks hnm hB hl
  exact sMarrive_in ⟨hx, hb, hr, hml, hown, hts, hlocks, hB.2.1, hB.2.2, hD⟩ I J cn cm so a1 h _ _ ls hB.1 va_S.rf hl
noncomputable def wMload_41 (post : (Nat → Nat → Int32) → (Nat → Nat → Int64) → Int32 → Int64 → Int32 → Prop) (n : Nat) : (Nat → Nat → Int32) → (Nat → Nat → Int64) → Int32 → Int64 → Int32 → Int32 → Int32 → Prop := Nat.rec (motive := fun _ => (Nat → Nat → Int32) → (Nat → Nat → Int64) → Int32 → Int64 → Int32 → Int32 → Int32 → Prop) (fun _ _ _ _ _ _ _ => False) (fun _ K41 I J cn cm so v1 v2 => ((4 ≤ v2 → (post I J cn cm so)) ∧ (¬ 4 ≤ v2 → (vp_in ((4 * v1) + v2) 96 ∧ (vp_in v2 4 ∧ ∀ J9, J9 = mj_up J 7 (Int32.toNatClampNeg v2) (J 5 (Int32.toNatClampNeg ((4 * v1) + v2))) → (K41 I J9 cn cm so v1 (v2 + 1))))))) n
noncomputable def wMload_12 (post : (Nat → Nat → Int32) → (Nat → Nat → Int64) → Int32 → Int64 → Int32 → Prop) (n : Nat) : (Nat → Nat → Int32) → (Nat → Nat → Int64) → Int32 → Int64 → Int32 → Int32 → Int32 → Prop := Nat.rec (motive := fun _ => (Nat → Nat → Int32) → (Nat → Nat → Int64) → Int32 → Int64 → Int32 → Int32 → Int32 → Prop) (fun _ _ _ _ _ _ _ => False) (fun _ K12 I J cn cm so v1 v2 => ((5 ≤ v2 → (∃ k, wMload_41 post  k I J cn cm so v1 0)) ∧ (¬ 5 ≤ v2 → (vp_in ((5 * v1) + v2) 120 ∧ (vp_in v2 5 ∧ ∀ I5, I5 = mi_up I 9 (Int32.toNatClampNeg v2) (I 7 (Int32.toNatClampNeg ((5 * v1) + v2))) → (K12 I5 J cn cm so v1 (v2 + 1))))))) n
def wMload (post : (Nat → Nat → Int32) → (Nat → Nat → Int64) → Int32 → Int64 → Int32 → Prop) (I : Nat → Nat → Int32) (J : Nat → Nat → Int64) (cn : Int32) (cm : Int64) (so : Int32) (a1 : Int32) : Prop := (vp_in a1 24 ∧ ∀ x2, x2 = J 4 (Int32.toNatClampNeg a1) → (∃ k, wMload_12 post  k I J cn x2 so a1 0))
set_option maxRecDepth 100000 in
set_option maxHeartbeats 4000000 in
theorem sMload_41 {p : Program} {l : Launch} {e : Env} {s : State} {m : MethodId} {args : Array Value} {below : List Frame} {meth : Method} {c : Code} {D : va_G} {A : Nat → Prop} {h0 : Nat} {ad : Nat → Nat} {cI cL : ClassId} {post : (Nat → Nat → Int32) → (Nat → Nat → Int64) → Int32 → Int64 → Int32 → Prop} (C0 : mCx p s m args meth c D A h0 ad cI cL cXM_load 3 none) : ∀ (n : Nat) (I : Nat → Nat → Int32) (J : Nat → Nat → Int64) (cn : Int32) (cm : Int64) (so : Int32) (v1 : Int32) (v2 : Int32), wMload_41 post  n I J cn cm so v1 v2 → ∀ (H : Heap) (locs : List Loc) (ls : Array Slot), mW D h0 ad cI cL (I, J, cn, cm, so) H → va_S A s.heap H locs → lv_has ls 3 [(0, .ref h0), (1, .int v1), (2, .int v2)] → W p l e ({ frames := 0, cells := 0, slots := 0, locals := 0 } : Room) s m args below meth c H locs 0 0 (MQ below (va_Qv (fun (u : mS) => post u.1 u.2.1 u.2.2.1 u.2.2.2.1 u.2.2.2.2) (fxC (mW D h0 ad cI cL)) A) args s 0 0 A) (F0 m 41 ls []) := by
  obtain ⟨hx, hb, hr, hml, hown, hts, hlocks, hK, hN, hD⟩ := id C0
  intro n
  induction n with
  | zero => exact fun _ _ _ _ _ _ _ h => h.elim
  | succ n hK41 =>
    intro I J cn cm so v1 v2 h H locs ls hP hS hl
    replace h : ((4 ≤ v2 → (post I J cn cm so)) ∧ (¬ 4 ≤ v2 → (vp_in ((4 * v1) + v2) 96 ∧ (vp_in v2 4 ∧ ∀ J9, J9 = mj_up J 7 (Int32.toNatClampNeg v2) (J 5 (Int32.toNatClampNeg ((4 * v1) + v2))) → ((wMload_41 post  n) I J9 cn cm so v1 (v2 + 1)))))) := h
    refine lv_iload_n hx hb dXM_load_41 rfl (lv_at hl 2 rfl) ?_
    refine lv_iconst (v := 4) hx hb dXM_load_42 (by decide) ?_
    refine lv_icmp_ge (tgt := 68) hx hb dXM_load_43 (by decide) (fun c7 => ?_) (fun c7 => ?_)
    · replace h := h.1 c7
      exact W.vret hx hb hr (fun t ht hW => ⟨⟨(I, J, cn, cm, so), rfl, h, by rw [fxC, ht]; exact hP⟩, hS.F ht⟩) hS.2.2 dXM_load_68 hlocks
    · replace h := h.2 c7
      refine lv_aload_n hx hb dXM_load_46 rfl (lv_at hl 0 rfl) ?_
      refine mg_comingLink hx hb hown hts hK hP dXM_load_47 ?_
      refine lv_iload_n hx hb dXM_load_50 rfl (lv_at hl 2 rfl) ?_
      refine lv_aload_n hx hb dXM_load_51 rfl (lv_at hl 0 rfl) ?_
      refine mg_waitLink hx hb hown hts hK hP dXM_load_52 ?_
      refine lv_iconst (v := 4) hx hb dXM_load_55 (by decide) ?_
      refine lv_iload_n hx hb dXM_load_56 rfl (lv_at hl 1 rfl) ?_
      refine lv_imul hx hb dXM_load_57 ?_
      refine lv_iload_n hx hb dXM_load_58 rfl (lv_at hl 2 rfl) ?_
      refine lv_iadd hx hb dXM_load_59 ?_
      obtain ⟨h8, h⟩ := h
      refine ma_13 hx hb hK hP h8 dXM_load_60 ?_
      obtain ⟨h10, h⟩ := h
      obtain ⟨J9, eJ9⟩ : ∃ y, y = mj_up J 7 (Int32.toNatClampNeg v2) (J 5 (Int32.toNatClampNeg ((4 * v1) + v2))) := ⟨_, rfl⟩
      replace h := h J9 eJ9
      refine ms_17 hx hb hK hD hP hS h10 dXM_load_61 (fun H locs hP hS => ?_)
      rw [← eJ9] at hP
      refine lv_iinc (v := v2 + 1) (lv' := [(2, .int (v2 + 1)), (0, .ref h0), (1, .int v1)]) hx hb dXM_load_62 hl (k := 2) rfl rfl (by decide) rfl (fun ls hl => ?_)
      refine lv_goto (tgt := 41) hx hb dXM_load_65 (by decide) ?_
      exact hK41 I J9 cn cm so v1 (v2 + 1) h H locs ls hP hS (lv_sub hl [1, 2, 0] rfl)
set_option maxRecDepth 100000 in
set_option maxHeartbeats 4000000 in
theorem sMload_12 {p : Program} {l : Launch} {e : Env} {s : State} {m : MethodId} {args : Array Value} {below : List Frame} {meth : Method} {c : Code} {D : va_G} {A : Nat → Prop} {h0 : Nat} {ad : Nat → Nat} {cI cL : ClassId} {post : (Nat → Nat → Int32) → (Nat → Nat → Int64) → Int32 → Int64 → Int32 → Prop} (C0 : mCx p s m args meth c D A h0 ad cI cL cXM_load 3 none) : ∀ (n : Nat) (I : Nat → Nat → Int32) (J : Nat → Nat → Int64) (cn : Int32) (cm : Int64) (so : Int32) (v1 : Int32) (v2 : Int32), wMload_12 post  n I J cn cm so v1 v2 → ∀ (H : Heap) (locs : List Loc) (ls : Array Slot), mW D h0 ad cI cL (I, J, cn, cm, so) H → va_S A s.heap H locs → lv_has ls 3 [(0, .ref h0), (1, .int v1), (2, .int v2)] → W p l e ({ frames := 0, cells := 0, slots := 0, locals := 0 } : Room) s m args below meth c H locs 0 0 (MQ below (va_Qv (fun (u : mS) => post u.1 u.2.1 u.2.2.1 u.2.2.2.1 u.2.2.2.2) (fxC (mW D h0 ad cI cL)) A) args s 0 0 A) (F0 m 12 ls []) := by
  obtain ⟨hx, hb, hr, hml, hown, hts, hlocks, hK, hN, hD⟩ := id C0
  intro n
  induction n with
  | zero => exact fun _ _ _ _ _ _ _ h => h.elim
  | succ n hK12 =>
    intro I J cn cm so v1 v2 h H locs ls hP hS hl
    replace h : ((5 ≤ v2 → (∃ k, wMload_41 post  k I J cn cm so v1 0)) ∧ (¬ 5 ≤ v2 → (vp_in ((5 * v1) + v2) 120 ∧ (vp_in v2 5 ∧ ∀ I5, I5 = mi_up I 9 (Int32.toNatClampNeg v2) (I 7 (Int32.toNatClampNeg ((5 * v1) + v2))) → ((wMload_12 post  n) I5 J cn cm so v1 (v2 + 1)))))) := h
    refine lv_iload_n hx hb dXM_load_12 rfl (lv_at hl 2 rfl) ?_
    refine lv_iconst (v := 5) hx hb dXM_load_13 (by decide) ?_
    refine lv_icmp_ge (tgt := 39) hx hb dXM_load_14 (by decide) (fun c3 => ?_) (fun c3 => ?_)
    · replace h := h.1 c3
      refine lv_iconst (v := 0) hx hb dXM_load_39 (by decide) ?_
      refine lv_istore_n (lv' := [(2, .int 0), (0, .ref h0), (1, .int v1)]) hx hb dXM_load_40 rfl hl (by decide) rfl (fun ls hl => ?_)
      obtain ⟨k, h⟩ := h
      exact sMload_41  C0  k I J cn cm so v1 0 h H locs ls hP hS (lv_sub hl [1, 2, 0] rfl)
    · replace h := h.2 c3
      refine lv_aload_n hx hb dXM_load_17 rfl (lv_at hl 0 rfl) ?_
      refine mg_numbers hx hb hown hts hK hP dXM_load_18 ?_
      refine lv_iload_n hx hb dXM_load_21 rfl (lv_at hl 2 rfl) ?_
      refine lv_aload_n hx hb dXM_load_22 rfl (lv_at hl 0 rfl) ?_
      refine mg_waitNumbers hx hb hown hts hK hP dXM_load_23 ?_
      refine lv_iconst (v := 5) hx hb dXM_load_26 (by decide) ?_
      refine lv_iload_n hx hb dXM_load_27 rfl (lv_at hl 1 rfl) ?_
      refine lv_imul hx hb dXM_load_28 ?_
      refine lv_iload_n hx hb dXM_load_29 rfl (lv_at hl 2 rfl) ?_
      refine lv_iadd hx hb dXM_load_30 ?_
      obtain ⟨h4, h⟩ := h
      refine ma_12 hx hb hK hP h4 dXM_load_31 ?_
      obtain ⟨h6, h⟩ := h
      obtain ⟨I5, eI5⟩ : ∃ y, y = mi_up I 9 (Int32.toNatClampNeg v2) (I 7 (Int32.toNatClampNeg ((5 * v1) + v2))) := ⟨_, rfl⟩
      replace h := h I5 eI5
      refine ms_16 hx hb hK hD hP hS h6 dXM_load_32 (fun H locs hP hS => ?_)
      rw [← eI5] at hP
      refine lv_iinc (v := v2 + 1) (lv' := [(2, .int (v2 + 1)), (0, .ref h0), (1, .int v1)]) hx hb dXM_load_33 hl (k := 2) rfl rfl (by decide) rfl (fun ls hl => ?_)
      refine lv_goto (tgt := 12) hx hb dXM_load_36 (by decide) ?_
      exact hK12 I5 J cn cm so v1 (v2 + 1) h H locs ls hP hS (lv_sub hl [1, 2, 0] rfl)
set_option maxRecDepth 100000 in
set_option maxHeartbeats 4000000 in
theorem sMload_in {p : Program} {l : Launch} {e : Env} {s : State} {m : MethodId} {args : Array Value} {below : List Frame} {meth : Method} {c : Code} {D : va_G} {A : Nat → Prop} {h0 : Nat} {ad : Nat → Nat} {cI cL : ClassId} {post : (Nat → Nat → Int32) → (Nat → Nat → Int64) → Int32 → Int64 → Int32 → Prop} (C0 : mCx p s m args meth c D A h0 ad cI cL cXM_load 3 none) : ∀ (I : Nat → Nat → Int32) (J : Nat → Nat → Int64) (cn : Int32) (cm : Int64) (so : Int32) (a1 : Int32), wMload post I J cn cm so a1 → ∀ (H : Heap) (locs : List Loc) (ls : Array Slot), mW D h0 ad cI cL (I, J, cn, cm, so) H → va_S A s.heap H locs → lv_has ls 3 [(0, .ref h0), (1, .int a1)] → W p l e ({ frames := 0, cells := 0, slots := 0, locals := 0 } : Room) s m args below meth c H locs 0 0 (MQ below (va_Qv (fun (u : mS) => post u.1 u.2.1 u.2.2.1 u.2.2.2.1 u.2.2.2.2) (fxC (mW D h0 ad cI cL)) A) args s 0 0 A) (F0 m 0 ls []) := by
  obtain ⟨hx, hb, hr, hml, hown, hts, hlocks, hK, hN, hD⟩ := id C0
  intro I J cn cm so a1 h H locs ls hP hS hl
  replace h : (vp_in a1 24 ∧ ∀ x2, x2 = J 4 (Int32.toNatClampNeg a1) → (∃ k, wMload_12 post  k I J cn x2 so a1 0)) := h
  refine lv_aload_n hx hb dXM_load_0 rfl (lv_at hl 0 rfl) ?_
  refine lv_aload_n hx hb dXM_load_1 rfl (lv_at hl 0 rfl) ?_
  refine mg_waitHash hx hb hown hts hK hP dXM_load_2 ?_
  refine lv_iload_n hx hb dXM_load_5 rfl (lv_at hl 1 rfl) ?_
  obtain ⟨h1, h⟩ := h
  refine ma_11 hx hb hK hP h1 dXM_load_6 ?_
  refine lv_topl (fun x2 ex2 => ?_)
  replace h := h x2 ex2
  refine mp_coming hx hb hown hts hK hD hP hS dXM_load_7 (fun H locs hP hS => ?_)
  refine lv_iconst (v := 0) hx hb dXM_load_10 (by decide) ?_
  refine lv_istore_n (lv' := [(2, .int 0), (0, .ref h0), (1, .int a1)]) hx hb dXM_load_11 rfl hl (by decide) rfl (fun ls hl => ?_)
  obtain ⟨k, h⟩ := h
  exact sMload_12  C0  k I J cn x2 so a1 0 h H locs ls hP hS (lv_sub hl [1, 2, 0] rfl)
set_option maxRecDepth 100000 in
set_option maxHeartbeats 4000000 in
theorem cMload {l : Launch} {D : va_G} {A : Nat → Prop} {h0 : Nat} {ad : Nat → Nat} {cI cL : ClassId} (hD : mDs A h0 ad cI cL) {post : (Nat → Nat → Int32) → (Nat → Nat → Int64) → Int32 → Int64 → Int32 → Prop} {I : Nat → Nat → Int32} {J : Nat → Nat → Int64} {cn : Int32} {cm : Int64} {so : Int32} {a1 : Int32} (h : wMload post I J cn cm so a1) : Met l yXM_load (.code yXM_load cXM_load 3 none :: lg_tbl) ({ frames := 0, cells := 0, slots := 0, locals := 0 } : Room) (va_Pc [.ref h0, .int a1] (fxB (mW D h0 ad cI cL (I, J, cn, cm, so)) D vwCl (mTy cI cL))) (va_Qv (fun (u : mS) => post u.1 u.2.1 u.2.2.1 u.2.2.2.1 u.2.2.2.2) (fxC (mW D h0 ad cI cL)) A) 0 0 A := by
  refine fx_start (by decide +kernel) (Nat.le_of_ble_eq_true rfl) ?_
  intro p e s m below meth c ls hx hb hr hml hown hts hlocks hnm hB hl
  exact sMload_in ⟨hx, hb, hr, hml, hown, hts, hlocks, hB.2.1, hB.2.2, hD⟩ I J cn cm so a1 h _ _ ls hB.1 va_S.rf hl
noncomputable def wMcome_8 (post : Int32 → (Nat → Nat → Int32) → (Nat → Nat → Int64) → Int32 → Int64 → Int32 → Prop) (n : Nat) : (Nat → Nat → Int32) → (Nat → Nat → Int64) → Int32 → Int64 → Int32 → Int32 → Int32 → Int32 → Prop := Nat.rec (motive := fun _ => (Nat → Nat → Int32) → (Nat → Nat → Int64) → Int32 → Int64 → Int32 → Int32 → Int32 → Int32 → Prop) (fun _ _ _ _ _ _ _ _ => False) (fun _ K8 I J cn cm so v1 v2 v3 => (vp_in v1 4 ∧ (((I 6 (Int32.toNatClampNeg v1)) ≤ v3 → (post v2 I J cn cm so)) ∧ (¬ (I 6 (Int32.toNatClampNeg v1)) ≤ v3 → (wMload (fun I_4 J_4 cn_4 cm_4 so_4 => (wMlinksHeld (fun r5 I_5 J_5 cn_5 cm_5 so_5 => ((r5 = 0 → (K8 I_5 J_5 cn_5 cm_5 so_5 v1 v2 (v3 + 1))) ∧ (¬ r5 = 0 → (wMleave (fun I_7 J_7 cn_7 cm_7 so_7 => (wMarrive (fun r8 I_8 J_8 cn_8 cm_8 so_8 => (K8 I_8 J_8 cn_8 cm_8 so_8 v1 v2 0)) I_7 J_7 cn_7 cm_7 so_7 v1)) I_5 J_5 cn_5 cm_5 so_5 v1 v3)))) I_4 J_4 cn_4 cm_4 so_4 v1)) I J cn cm so ((6 * v1) + v3)))))) n
def wMcome (post : Int32 → (Nat → Nat → Int32) → (Nat → Nat → Int64) → Int32 → Int64 → Int32 → Prop) (I : Nat → Nat → Int32) (J : Nat → Nat → Int64) (cn : Int32) (cm : Int64) (so : Int32) (a1 : Int32) : Prop := (wMarrive (fun r1 I_1 J_1 cn_1 cm_1 so_1 => (∃ k, wMcome_8 post  k I_1 J_1 cn_1 cm_1 so_1 a1 r1 0)) I J cn cm so a1)
set_option maxRecDepth 100000 in
set_option maxHeartbeats 4000000 in
theorem sMcome_8 {p : Program} {l : Launch} {e : Env} {s : State} {m : MethodId} {args : Array Value} {below : List Frame} {meth : Method} {c : Code} {D : va_G} {A : Nat → Prop} {h0 : Nat} {ad : Nat → Nat} {cI cL : ClassId} {post : Int32 → (Nat → Nat → Int32) → (Nat → Nat → Int64) → Int32 → Int64 → Int32 → Prop} (C0 : mCx p s m args meth c D A h0 ad cI cL cXM_come 4 (some .int)) : ∀ (n : Nat) (I : Nat → Nat → Int32) (J : Nat → Nat → Int64) (cn : Int32) (cm : Int64) (so : Int32) (v1 : Int32) (v2 : Int32) (v3 : Int32), wMcome_8 post  n I J cn cm so v1 v2 v3 → ∀ (H : Heap) (locs : List Loc) (ls : Array Slot), mW D h0 ad cI cL (I, J, cn, cm, so) H → va_S A s.heap H locs → lv_has ls 4 [(0, .ref h0), (1, .int v1), (2, .int v2), (3, .int v3)] → W p l e ({ frames := 4, cells := 0, slots := 0, locals := 98 } : Room) s m args below meth c H locs 0 0 (MQ below (va_Qi (fun (r : Int32) (u : mS) => post r u.1 u.2.1 u.2.2.1 u.2.2.2.1 u.2.2.2.2) (fxC (mW D h0 ad cI cL)) A) args s 0 0 A) (F0 m 8 ls []) := by
  obtain ⟨hx, hb, hr, hml, hown, hts, hlocks, hK, hN, hD⟩ := id C0
  intro n
  induction n with
  | zero => exact fun _ _ _ _ _ _ _ _ h => h.elim
  | succ n hK8 =>
    intro I J cn cm so v1 v2 v3 h H locs ls hP hS hl
    replace h : (vp_in v1 4 ∧ (((I 6 (Int32.toNatClampNeg v1)) ≤ v3 → (post v2 I J cn cm so)) ∧ (¬ (I 6 (Int32.toNatClampNeg v1)) ≤ v3 → (wMload (fun I_4 J_4 cn_4 cm_4 so_4 => (wMlinksHeld (fun r5 I_5 J_5 cn_5 cm_5 so_5 => ((r5 = 0 → ((wMcome_8 post  n) I_5 J_5 cn_5 cm_5 so_5 v1 v2 (v3 + 1))) ∧ (¬ r5 = 0 → (wMleave (fun I_7 J_7 cn_7 cm_7 so_7 => (wMarrive (fun r8 I_8 J_8 cn_8 cm_8 so_8 => ((wMcome_8 post  n) I_8 J_8 cn_8 cm_8 so_8 v1 v2 0)) I_7 J_7 cn_7 cm_7 so_7 v1)) I_5 J_5 cn_5 cm_5 so_5 v1 v3)))) I_4 J_4 cn_4 cm_4 so_4 v1)) I J cn cm so ((6 * v1) + v3))))) := h
    refine lv_iload_n hx hb dXM_come_8 rfl (lv_at hl 3 rfl) ?_
    refine lv_aload_n hx hb dXM_come_9 rfl (lv_at hl 0 rfl) ?_
    refine mg_waits hx hb hown hts hK hP dXM_come_10 ?_
    refine lv_iload_n hx hb dXM_come_13 rfl (lv_at hl 1 rfl) ?_
    obtain ⟨h2, h⟩ := h
    refine ma_10 hx hb hK hP h2 dXM_come_14 ?_
    refine lv_icmp_ge (tgt := 59) hx hb dXM_come_15 (by decide) (fun c3 => ?_) (fun c3 => ?_)
    · replace h := h.1 c3
      refine lv_iload_n hx hb dXM_come_59 rfl (lv_at hl 2 rfl) ?_
      exact W.iret hx hb hr (fun t ht hW => ⟨⟨_, (I, J, cn, cm, so), rfl, h, by rw [fxC, ht]; exact hP⟩, hS.F ht⟩) hS.2.2 dXM_come_60 hlocks
    · replace h := h.2 c3
      refine lv_aload_n hx hb dXM_come_18 rfl (lv_at hl 0 rfl) ?_
      refine lv_bipush (v := 6) hx hb dXM_come_19 (by decide) ?_
      refine lv_iload_n hx hb dXM_come_21 rfl (lv_at hl 1 rfl) ?_
      refine lv_imul hx hb dXM_come_22 ?_
      refine lv_iload_n hx hb dXM_come_23 rfl (lv_at hl 3 rfl) ?_
      refine lv_iadd hx hb dXM_come_24 ?_
      refine va_callv (va_runV (As := [.int ((6 * v1) + v3)]) (rest := []) ⟨hx, hb, hml, hown, hts⟩ (cMload hD h) (fx_cwV 1 hts gw_M_129 hdXM_load ⟨Nat.le_of_ble_eq_true rfl, Nat.le_of_ble_eq_true rfl⟩) (fx_preV (m_recv hK hP) hP hK hN) rfl rfl hl.1 rfl (lv_room (Nat.le_of_ble_eq_true rfl)) dXM_come_25 ⟨Nat.le_of_ble_eq_true rfl, Nat.le_of_ble_eq_true rfl⟩) hS (fun _ _ q => q) (fun _ q => q) (fun u t H locs ht hvm h hP hz hk hS => ?_)
      rw [fxC, ht] at hP
      obtain ⟨I_4, J_4, cn_4, cm_4, so_4⟩ := u
      dsimp only at h
      refine lv_aload_n hx hb dXM_come_28 rfl (lv_at hl 0 rfl) ?_
      refine lv_iload_n hx hb dXM_come_29 rfl (lv_at hl 1 rfl) ?_
      refine va_calli (va_runV (As := [.int v1]) (rest := []) ⟨hx, hb, hml, hown, hts⟩ (cMlinksHeld hD h) (fx_cwV 1 hts gw_M_112 hdXM_linksHeld ⟨Nat.le_of_ble_eq_true rfl, Nat.le_of_ble_eq_true rfl⟩) (fx_preV (m_recv hK hP) hP hK hN) rfl rfl hl.1 rfl (lv_room (Nat.le_of_ble_eq_true rfl)) dXM_come_30 ⟨Nat.le_of_ble_eq_true rfl, Nat.le_of_ble_eq_true rfl⟩) hS (fun _ _ q => q) (fun _ q => q) (fun r5 u t H locs ht hvm h hP hz hk hS => ?_)
      rw [fxC, ht] at hP
      obtain ⟨I_5, J_5, cn_5, cm_5, so_5⟩ := u
      dsimp only at h
      refine lv_if_eq (tgt := 53) hx hb dXM_come_33 (by decide) (fun c6 => ?_) (fun c6 => ?_)
      · replace h := h.1 c6
        refine lv_iinc (v := v3 + 1) (lv' := [(3, .int (v3 + 1)), (0, .ref h0), (1, .int v1), (2, .int v2)]) hx hb dXM_come_53 hl (k := 3) rfl rfl (by decide) rfl (fun ls hl => ?_)
        refine lv_goto (tgt := 8) hx hb dXM_come_56 (by decide) ?_
        exact hK8 I_5 J_5 cn_5 cm_5 so_5 v1 v2 (v3 + 1) h H locs ls hP hS (lv_sub hl [1, 2, 3, 0] rfl)
      · replace h := h.2 c6
        refine lv_aload_n hx hb dXM_come_36 rfl (lv_at hl 0 rfl) ?_
        refine lv_iload_n hx hb dXM_come_37 rfl (lv_at hl 1 rfl) ?_
        refine lv_iload_n hx hb dXM_come_38 rfl (lv_at hl 3 rfl) ?_
        refine va_callv (va_runV (As := [.int v1, .int v3]) (rest := []) ⟨hx, hb, hml, hown, hts⟩ (cMleave hD h) (fx_cwV 2 hts gw_M_100 hdXM_leave ⟨Nat.le_of_ble_eq_true rfl, Nat.le_of_ble_eq_true rfl⟩) (fx_preV (m_recv hK hP) hP hK hN) rfl rfl hl.1 rfl (lv_room (Nat.le_of_ble_eq_true rfl)) dXM_come_39 ⟨Nat.le_of_ble_eq_true rfl, Nat.le_of_ble_eq_true rfl⟩) hS (fun _ _ q => q) (fun _ q => q) (fun u t H locs ht hvm h hP hz hk hS => ?_)
        rw [fxC, ht] at hP
        obtain ⟨I_7, J_7, cn_7, cm_7, so_7⟩ := u
        dsimp only at h
        refine lv_aload_n hx hb dXM_come_42 rfl (lv_at hl 0 rfl) ?_
        refine lv_iload_n hx hb dXM_come_43 rfl (lv_at hl 1 rfl) ?_
        refine va_calli (va_runV (As := [.int v1]) (rest := []) ⟨hx, hb, hml, hown, hts⟩ (cMarrive hD h) (fx_cwV 1 hts gw_M_125 hdXM_arrive ⟨Nat.le_of_ble_eq_true rfl, Nat.le_of_ble_eq_true rfl⟩) (fx_preV (m_recv hK hP) hP hK hN) rfl rfl hl.1 rfl (lv_room (Nat.le_of_ble_eq_true rfl)) dXM_come_44 ⟨Nat.le_of_ble_eq_true rfl, Nat.le_of_ble_eq_true rfl⟩) hS (fun _ _ q => q) (fun _ q => q) (fun r8 u t H locs ht hvm h hP hz hk hS => ?_)
        rw [fxC, ht] at hP
        obtain ⟨I_8, J_8, cn_8, cm_8, so_8⟩ := u
        dsimp only at h
        refine lv_pop hx hb dXM_come_47 rfl ?_
        refine lv_iconst (v := 0) hx hb dXM_come_48 (by decide) ?_
        refine lv_istore_n (lv' := [(3, .int 0), (0, .ref h0), (1, .int v1), (2, .int v2)]) hx hb dXM_come_49 rfl hl (by decide) rfl (fun ls hl => ?_)
        refine lv_goto (tgt := 8) hx hb dXM_come_50 (by decide) ?_
        exact hK8 I_8 J_8 cn_8 cm_8 so_8 v1 v2 0 h H locs ls hP hS (lv_sub hl [1, 2, 3, 0] rfl)
set_option maxRecDepth 100000 in
set_option maxHeartbeats 4000000 in
theorem sMcome_in {p : Program} {l : Launch} {e : Env} {s : State} {m : MethodId} {args : Array Value} {below : List Frame} {meth : Method} {c : Code} {D : va_G} {A : Nat → Prop} {h0 : Nat} {ad : Nat → Nat} {cI cL : ClassId} {post : Int32 → (Nat → Nat → Int32) → (Nat → Nat → Int64) → Int32 → Int64 → Int32 → Prop} (C0 : mCx p s m args meth c D A h0 ad cI cL cXM_come 4 (some .int)) : ∀ (I : Nat → Nat → Int32) (J : Nat → Nat → Int64) (cn : Int32) (cm : Int64) (so : Int32) (a1 : Int32), wMcome post I J cn cm so a1 → ∀ (H : Heap) (locs : List Loc) (ls : Array Slot), mW D h0 ad cI cL (I, J, cn, cm, so) H → va_S A s.heap H locs → lv_has ls 4 [(0, .ref h0), (1, .int a1)] → W p l e ({ frames := 4, cells := 0, slots := 0, locals := 98 } : Room) s m args below meth c H locs 0 0 (MQ below (va_Qi (fun (r : Int32) (u : mS) => post r u.1 u.2.1 u.2.2.1 u.2.2.2.1 u.2.2.2.2) (fxC (mW D h0 ad cI cL)) A) args s 0 0 A) (F0 m 0 ls []) := by
  obtain ⟨hx, hb, hr, hml, hown, hts, hlocks, hK, hN, hD⟩ := id C0
  intro I J cn cm so a1 h H locs ls hP hS hl
  replace h : (wMarrive (fun r1 I_1 J_1 cn_1 cm_1 so_1 => (∃ k, wMcome_8 post  k I_1 J_1 cn_1 cm_1 so_1 a1 r1 0)) I J cn cm so a1) := h
  refine lv_aload_n hx hb dXM_come_0 rfl (lv_at hl 0 rfl) ?_
  refine lv_iload_n hx hb dXM_come_1 rfl (lv_at hl 1 rfl) ?_
  refine va_calli (va_runV (As := [.int a1]) (rest := []) ⟨hx, hb, hml, hown, hts⟩ (cMarrive hD h) (fx_cwV 1 hts gw_M_125 hdXM_arrive ⟨Nat.le_of_ble_eq_true rfl, Nat.le_of_ble_eq_true rfl⟩) (fx_preV (m_recv hK hP) hP hK hN) rfl rfl hl.1 rfl (lv_room (Nat.le_of_ble_eq_true rfl)) dXM_come_2 ⟨Nat.le_of_ble_eq_true rfl, Nat.le_of_ble_eq_true rfl⟩) hS (fun _ _ q => q) (fun _ q => q) (fun r1 u t H locs ht hvm h hP hz hk hS => ?_)
  rw [fxC, ht] at hP
  obtain ⟨I_1, J_1, cn_1, cm_1, so_1⟩ := u
  dsimp only at h
  refine lv_istore_n (lv' := [(2, .int r1), (0, .ref h0), (1, .int a1)]) hx hb dXM_come_5 rfl hl (by decide) rfl (fun ls hl => ?_)
  refine lv_iconst (v := 0) hx hb dXM_come_6 (by decide) ?_
  refine lv_istore_n (lv' := [(3, .int 0), (2, .int r1), (0, .ref h0), (1, .int a1)]) hx hb dXM_come_7 rfl hl (by decide) rfl (fun ls hl => ?_)
  obtain ⟨k, h⟩ := h
  exact sMcome_8  C0  k I_1 J_1 cn_1 cm_1 so_1 a1 r1 0 h H locs ls hP hS (lv_sub hl [2, 3, 1, 0] rfl)
set_option maxRecDepth 100000 in
set_option maxHeartbeats 4000000 in
theorem cMcome {l : Launch} {D : va_G} {A : Nat → Prop} {h0 : Nat} {ad : Nat → Nat} {cI cL : ClassId} (hD : mDs A h0 ad cI cL) {post : Int32 → (Nat → Nat → Int32) → (Nat → Nat → Int64) → Int32 → Int64 → Int32 → Prop} {I : Nat → Nat → Int32} {J : Nat → Nat → Int64} {cn : Int32} {cm : Int64} {so : Int32} {a1 : Int32} (h : wMcome post I J cn cm so a1) : Met l yXM_come (.code yXM_come cXM_come 4 (some .int) :: lg_tbl) ({ frames := 4, cells := 0, slots := 0, locals := 98 } : Room) (va_Pc [.ref h0, .int a1] (fxB (mW D h0 ad cI cL (I, J, cn, cm, so)) D vwCl (mTy cI cL))) (va_Qi (fun (r : Int32) (u : mS) => post r u.1 u.2.1 u.2.2.1 u.2.2.2.1 u.2.2.2.2) (fxC (mW D h0 ad cI cL)) A) 0 0 A := by
  refine fx_start (by decide +kernel) (Nat.le_of_ble_eq_true rfl) ?_
  intro p e s m below meth c ls hx hb hr hml hown hts hlocks hnm hB hl
  exact sMcome_in ⟨hx, hb, hr, hml, hown, hts, hlocks, hB.2.1, hB.2.2, hD⟩ I J cn cm so a1 h _ _ ls hB.1 va_S.rf hl
noncomputable def wMheadSet_5 (post : Int64 → (Nat → Nat → Int32) → (Nat → Nat → Int64) → Int32 → Int64 → Int32 → Prop) (n : Nat) : (Nat → Nat → Int32) → (Nat → Nat → Int64) → Int32 → Int64 → Int32 → Int32 → Int64 → Int32 → Prop := Nat.rec (motive := fun _ => (Nat → Nat → Int32) → (Nat → Nat → Int64) → Int32 → Int64 → Int32 → Int32 → Int64 → Int32 → Prop) (fun _ _ _ _ _ _ _ _ => False) (fun _ K5 I J cn cm so v1 v2 v4 => ((cn ≤ v4 → (vp_in v1 4 ∧ (post ((J 3 (Int32.toNatClampNeg v1)) &&& (v2 ^^^ (-1))) I J cn cm so))) ∧ (¬ cn ≤ v4 → (vp_in v1 4 ∧ (wMin (fun r4 I_4 J_4 cn_4 cm_4 so_4 => ((r4 = 0 → (K5 I_4 J_4 cn_4 cm_4 so_4 v1 v2 (v4 + 1))) ∧ (¬ r4 = 0 → (vp_in v4 40 ∧ (K5 I_4 J_4 cn_4 cm_4 so_4 v1 (v2 ||| (J_4 2 (Int32.toNatClampNeg v4))) (v4 + 1)))))) I J cn cm so (J 3 (Int32.toNatClampNeg v1)) v4))))) n
def wMheadSet (post : Int64 → (Nat → Nat → Int32) → (Nat → Nat → Int64) → Int32 → Int64 → Int32 → Prop) (I : Nat → Nat → Int32) (J : Nat → Nat → Int64) (cn : Int32) (cm : Int64) (so : Int32) (a1 : Int32) : Prop := (∃ k, wMheadSet_5 post  k I J cn cm so a1 0 0)
set_option maxRecDepth 100000 in
set_option maxHeartbeats 4000000 in
theorem sMheadSet_5 {p : Program} {l : Launch} {e : Env} {s : State} {m : MethodId} {args : Array Value} {below : List Frame} {meth : Method} {c : Code} {D : va_G} {A : Nat → Prop} {h0 : Nat} {ad : Nat → Nat} {cI cL : ClassId} {post : Int64 → (Nat → Nat → Int32) → (Nat → Nat → Int64) → Int32 → Int64 → Int32 → Prop} (C0 : mCx p s m args meth c D A h0 ad cI cL cXM_headSet 5 (some .long)) : ∀ (n : Nat) (I : Nat → Nat → Int32) (J : Nat → Nat → Int64) (cn : Int32) (cm : Int64) (so : Int32) (v1 : Int32) (v2 : Int64) (v4 : Int32), wMheadSet_5 post  n I J cn cm so v1 v2 v4 → ∀ (H : Heap) (locs : List Loc) (ls : Array Slot), mW D h0 ad cI cL (I, J, cn, cm, so) H → va_S A s.heap H locs → lv_has ls 5 [(0, .ref h0), (1, .int v1), (2, .long v2), (4, .int v4)] → W p l e ({ frames := 1, cells := 0, slots := 0, locals := 22 } : Room) s m args below meth c H locs 0 0 (MQ below (va_Ql (fun (r : Int64) (u : mS) => post r u.1 u.2.1 u.2.2.1 u.2.2.2.1 u.2.2.2.2) (fxC (mW D h0 ad cI cL)) A) args s 0 0 A) (F0 m 5 ls []) := by
  obtain ⟨hx, hb, hr, hml, hown, hts, hlocks, hK, hN, hD⟩ := id C0
  intro n
  induction n with
  | zero => exact fun _ _ _ _ _ _ _ _ h => h.elim
  | succ n hK5 =>
    intro I J cn cm so v1 v2 v4 h H locs ls hP hS hl
    replace h : ((cn ≤ v4 → (vp_in v1 4 ∧ (post ((J 3 (Int32.toNatClampNeg v1)) &&& (v2 ^^^ (-1))) I J cn cm so))) ∧ (¬ cn ≤ v4 → (vp_in v1 4 ∧ (wMin (fun r4 I_4 J_4 cn_4 cm_4 so_4 => ((r4 = 0 → ((wMheadSet_5 post  n) I_4 J_4 cn_4 cm_4 so_4 v1 v2 (v4 + 1))) ∧ (¬ r4 = 0 → (vp_in v4 40 ∧ ((wMheadSet_5 post  n) I_4 J_4 cn_4 cm_4 so_4 v1 (v2 ||| (J_4 2 (Int32.toNatClampNeg v4))) (v4 + 1)))))) I J cn cm so (J 3 (Int32.toNatClampNeg v1)) v4)))) := h
    refine lv_iload hx hb dXM_headSet_5 (lv_at hl 3 rfl) ?_
    refine lv_aload_n hx hb dXM_headSet_7 rfl (lv_at hl 0 rfl) ?_
    refine mg_count hx hb hown hts hK hP dXM_headSet_8 ?_
    refine lv_icmp_ge (tgt := 48) hx hb dXM_headSet_11 (by decide) (fun c1 => ?_) (fun c1 => ?_)
    · replace h := h.1 c1
      refine lv_aload_n hx hb dXM_headSet_48 rfl (lv_at hl 0 rfl) ?_
      refine mg_holds hx hb hown hts hK hP dXM_headSet_49 ?_
      refine lv_iload_n hx hb dXM_headSet_52 rfl (lv_at hl 1 rfl) ?_
      obtain ⟨h2, h⟩ := h
      refine ma_9 hx hb hK hP h2 dXM_headSet_53 ?_
      refine lv_lload_n hx hb dXM_headSet_54 rfl (lv_at hl 2 rfl) ?_
      refine lv_ldc2 (v := (-1)) hx hb hown (hts (.constantLong RXM 151 (-1)) (fx_m (by decide +kernel))) dXM_headSet_55 ?_
      refine lv_lxor hx hb dXM_headSet_58 ?_
      refine lv_land hx hb dXM_headSet_59 ?_
      exact W.lret hx hb hr (fun t ht hW => ⟨⟨_, (I, J, cn, cm, so), rfl, h, by rw [fxC, ht]; exact hP⟩, hS.F ht⟩) hS.2.2 dXM_headSet_60 hlocks
    · replace h := h.2 c1
      refine lv_aload_n hx hb dXM_headSet_14 rfl (lv_at hl 0 rfl) ?_
      refine mg_holds hx hb hown hts hK hP dXM_headSet_15 ?_
      refine lv_iload_n hx hb dXM_headSet_18 rfl (lv_at hl 1 rfl) ?_
      obtain ⟨h3, h⟩ := h
      refine ma_9 hx hb hK hP h3 dXM_headSet_19 ?_
      refine lv_iload hx hb dXM_headSet_20 (lv_at hl 3 rfl) ?_
      refine va_calli (va_runS (As := [.long (J 3 (Int32.toNatClampNeg v1)), .int v4]) (rest := []) ⟨hx, hb, hml, hown, hts⟩ (cMin hD h) (fx_cwS 2 hts gw_M_88 hdXM_in ⟨Nat.le_of_ble_eq_true rfl, Nat.le_of_ble_eq_true rfl⟩) (fx_preS hP hK hN) rfl rfl hl.1 rfl (lv_room (Nat.le_of_ble_eq_true rfl)) dXM_headSet_22 ⟨Nat.le_of_ble_eq_true rfl, Nat.le_of_ble_eq_true rfl⟩) hS (fun _ _ q => q) (fun _ q => q) (fun r4 u t H locs ht hvm h hP hz hk hS => ?_)
      rw [fxC, ht] at hP
      obtain ⟨I_4, J_4, cn_4, cm_4, so_4⟩ := u
      dsimp only at h
      refine lv_if_eq (tgt := 40) hx hb dXM_headSet_25 (by decide) (fun c5 => ?_) (fun c5 => ?_)
      · replace h := h.1 c5
        refine lv_lload_n hx hb dXM_headSet_40 rfl (lv_at hl 2 rfl) ?_
        refine lv_lstore_n (lv' := [(2, .long v2), (0, .ref h0), (1, .int v1), (4, .int v4)]) hx hb dXM_headSet_41 rfl hl (by decide) rfl (fun ls hl => ?_)
        refine lv_iinc (v := v4 + 1) (lv' := [(4, .int (v4 + 1)), (2, .long v2), (0, .ref h0), (1, .int v1)]) hx hb dXM_headSet_42 hl (k := 3) rfl rfl (by decide) rfl (fun ls hl => ?_)
        refine lv_goto (tgt := 5) hx hb dXM_headSet_45 (by decide) ?_
        exact hK5 I_4 J_4 cn_4 cm_4 so_4 v1 v2 (v4 + 1) h H locs ls hP hS (lv_sub hl [2, 3, 1, 0] rfl)
      · replace h := h.2 c5
        refine lv_lload_n hx hb dXM_headSet_28 rfl (lv_at hl 2 rfl) ?_
        refine lv_aload_n hx hb dXM_headSet_29 rfl (lv_at hl 0 rfl) ?_
        refine mg_past hx hb hown hts hK hP dXM_headSet_30 ?_
        refine lv_iload hx hb dXM_headSet_33 (lv_at hl 3 rfl) ?_
        obtain ⟨h6, h⟩ := h
        refine ma_7 hx hb hK hP h6 dXM_headSet_35 ?_
        refine lv_lor hx hb dXM_headSet_36 ?_
        refine lv_goto (tgt := 41) hx hb dXM_headSet_37 (by decide) ?_
        refine lv_lstore_n (lv' := [(2, .long (v2 ||| (J_4 2 (Int32.toNatClampNeg v4)))), (0, .ref h0), (1, .int v1), (4, .int v4)]) hx hb dXM_headSet_41 rfl hl (by decide) rfl (fun ls hl => ?_)
        refine lv_iinc (v := v4 + 1) (lv' := [(4, .int (v4 + 1)), (2, .long (v2 ||| (J_4 2 (Int32.toNatClampNeg v4)))), (0, .ref h0), (1, .int v1)]) hx hb dXM_headSet_42 hl (k := 3) rfl rfl (by decide) rfl (fun ls hl => ?_)
        refine lv_goto (tgt := 5) hx hb dXM_headSet_45 (by decide) ?_
        exact hK5 I_4 J_4 cn_4 cm_4 so_4 v1 (v2 ||| (J_4 2 (Int32.toNatClampNeg v4))) (v4 + 1) h H locs ls hP hS (lv_sub hl [2, 3, 1, 0] rfl)
set_option maxRecDepth 100000 in
set_option maxHeartbeats 4000000 in
theorem sMheadSet_in {p : Program} {l : Launch} {e : Env} {s : State} {m : MethodId} {args : Array Value} {below : List Frame} {meth : Method} {c : Code} {D : va_G} {A : Nat → Prop} {h0 : Nat} {ad : Nat → Nat} {cI cL : ClassId} {post : Int64 → (Nat → Nat → Int32) → (Nat → Nat → Int64) → Int32 → Int64 → Int32 → Prop} (C0 : mCx p s m args meth c D A h0 ad cI cL cXM_headSet 5 (some .long)) : ∀ (I : Nat → Nat → Int32) (J : Nat → Nat → Int64) (cn : Int32) (cm : Int64) (so : Int32) (a1 : Int32), wMheadSet post I J cn cm so a1 → ∀ (H : Heap) (locs : List Loc) (ls : Array Slot), mW D h0 ad cI cL (I, J, cn, cm, so) H → va_S A s.heap H locs → lv_has ls 5 [(0, .ref h0), (1, .int a1)] → W p l e ({ frames := 1, cells := 0, slots := 0, locals := 22 } : Room) s m args below meth c H locs 0 0 (MQ below (va_Ql (fun (r : Int64) (u : mS) => post r u.1 u.2.1 u.2.2.1 u.2.2.2.1 u.2.2.2.2) (fxC (mW D h0 ad cI cL)) A) args s 0 0 A) (F0 m 0 ls []) := by
  obtain ⟨hx, hb, hr, hml, hown, hts, hlocks, hK, hN, hD⟩ := id C0
  intro I J cn cm so a1 h H locs ls hP hS hl
  replace h : (∃ k, wMheadSet_5 post  k I J cn cm so a1 0 0) := h
  refine lv_lconst (v := 0) hx hb dXM_headSet_0 (by decide) ?_
  refine lv_lstore_n (lv' := [(2, .long 0), (0, .ref h0), (1, .int a1)]) hx hb dXM_headSet_1 rfl hl (by decide) rfl (fun ls hl => ?_)
  refine lv_iconst (v := 0) hx hb dXM_headSet_2 (by decide) ?_
  refine lv_istore (lv' := [(4, .int 0), (2, .long 0), (0, .ref h0), (1, .int a1)]) hx hb dXM_headSet_3 hl (by decide) rfl (fun ls hl => ?_)
  obtain ⟨k, h⟩ := h
  exact sMheadSet_5  C0  k I J cn cm so a1 0 0 h H locs ls hP hS (lv_sub hl [2, 3, 1, 0] rfl)
set_option maxRecDepth 100000 in
set_option maxHeartbeats 4000000 in
theorem cMheadSet {l : Launch} {D : va_G} {A : Nat → Prop} {h0 : Nat} {ad : Nat → Nat} {cI cL : ClassId} (hD : mDs A h0 ad cI cL) {post : Int64 → (Nat → Nat → Int32) → (Nat → Nat → Int64) → Int32 → Int64 → Int32 → Prop} {I : Nat → Nat → Int32} {J : Nat → Nat → Int64} {cn : Int32} {cm : Int64} {so : Int32} {a1 : Int32} (h : wMheadSet post I J cn cm so a1) : Met l yXM_headSet (.code yXM_headSet cXM_headSet 5 (some .long) :: lg_tbl) ({ frames := 1, cells := 0, slots := 0, locals := 22 } : Room) (va_Pc [.ref h0, .int a1] (fxB (mW D h0 ad cI cL (I, J, cn, cm, so)) D vwCl (mTy cI cL))) (va_Ql (fun (r : Int64) (u : mS) => post r u.1 u.2.1 u.2.2.1 u.2.2.2.1 u.2.2.2.2) (fxC (mW D h0 ad cI cL)) A) 0 0 A := by
  refine fx_start (by decide +kernel) (Nat.le_of_ble_eq_true rfl) ?_
  intro p e s m below meth c ls hx hb hr hml hown hts hlocks hnm hB hl
  exact sMheadSet_in ⟨hx, hb, hr, hml, hown, hts, hlocks, hB.2.1, hB.2.2, hD⟩ I J cn cm so a1 h _ _ ls hB.1 va_S.rf hl
def wMbefore_42 (post : Int32 → (Nat → Nat → Int32) → (Nat → Nat → Int64) → Int32 → Int64 → Int32 → Prop) (I : Nat → Nat → Int32) (J : Nat → Nat → Int64) (cn : Int32) (cm : Int64) (so : Int32) (v1 : Int32) (v2 : Int32) : Prop := (vp_in v1 40 ∧ (vp_in v2 40 ∧ ((0 ≤ (lg_cmp (J 0 (Int32.toNatClampNeg v1)) (J 0 (Int32.toNatClampNeg v2))) → (post 0 I J cn cm so)) ∧ (¬ 0 ≤ (lg_cmp (J 0 (Int32.toNatClampNeg v1)) (J 0 (Int32.toNatClampNeg v2))) → (post 1 I J cn cm so)))))
def wMbefore (post : Int32 → (Nat → Nat → Int32) → (Nat → Nat → Int64) → Int32 → Int64 → Int32 → Prop) (I : Nat → Nat → Int32) (J : Nat → Nat → Int64) (cn : Int32) (cm : Int64) (so : Int32) (a1 : Int32) (a2 : Int32) (a3 : Int32) : Prop := ((a3 = 0 → (wMbefore_42 post  I J cn cm so a1 a2)) ∧ (¬ a3 = 0 → (vp_in a1 40 ∧ (vp_in a2 40 ∧ (((I 5 (Int32.toNatClampNeg a1)) = (I 5 (Int32.toNatClampNeg a2)) → (wMbefore_42 post  I J cn cm so a1 a2)) ∧ (¬ (I 5 (Int32.toNatClampNeg a1)) = (I 5 (Int32.toNatClampNeg a2)) → (vp_in a1 40 ∧ (vp_in a2 40 ∧ (((I 5 (Int32.toNatClampNeg a2)) ≤ (I 5 (Int32.toNatClampNeg a1)) → (post 0 I J cn cm so)) ∧ (¬ (I 5 (Int32.toNatClampNeg a2)) ≤ (I 5 (Int32.toNatClampNeg a1)) → (post 1 I J cn cm so)))))))))))
set_option maxRecDepth 100000 in
set_option maxHeartbeats 4000000 in
theorem sMbefore_42 {p : Program} {l : Launch} {e : Env} {s : State} {m : MethodId} {args : Array Value} {below : List Frame} {meth : Method} {c : Code} {D : va_G} {A : Nat → Prop} {h0 : Nat} {ad : Nat → Nat} {cI cL : ClassId} {post : Int32 → (Nat → Nat → Int32) → (Nat → Nat → Int64) → Int32 → Int64 → Int32 → Prop} (C0 : mCx p s m args meth c D A h0 ad cI cL cXM_before 4 (some .boolean)) : ∀ (I : Nat → Nat → Int32) (J : Nat → Nat → Int64) (cn : Int32) (cm : Int64) (so : Int32) (v1 : Int32) (v2 : Int32), wMbefore_42 post  I J cn cm so v1 v2 → ∀ (H : Heap) (locs : List Loc) (ls : Array Slot), mW D h0 ad cI cL (I, J, cn, cm, so) H → va_S A s.heap H locs → lv_has ls 4 [(0, .ref h0), (1, .int v1), (2, .int v2)] → W p l e ({ frames := 0, cells := 0, slots := 0, locals := 0 } : Room) s m args below meth c H locs 0 0 (MQ below (va_Qi (fun (r : Int32) (u : mS) => post r u.1 u.2.1 u.2.2.1 u.2.2.2.1 u.2.2.2.2) (fxC (mW D h0 ad cI cL)) A) args s 0 0 A) (F0 m 42 ls []) := by
  obtain ⟨hx, hb, hr, hml, hown, hts, hlocks, hK, hN, hD⟩ := id C0
  intro I J cn cm so v1 v2 h H locs ls hP hS hl
  replace h : (vp_in v1 40 ∧ (vp_in v2 40 ∧ ((0 ≤ (lg_cmp (J 0 (Int32.toNatClampNeg v1)) (J 0 (Int32.toNatClampNeg v2))) → (post 0 I J cn cm so)) ∧ (¬ 0 ≤ (lg_cmp (J 0 (Int32.toNatClampNeg v1)) (J 0 (Int32.toNatClampNeg v2))) → (post 1 I J cn cm so))))) := h
  refine lv_aload_n hx hb dXM_before_42 rfl (lv_at hl 0 rfl) ?_
  refine mg_hash hx hb hown hts hK hP dXM_before_43 ?_
  refine lv_iload_n hx hb dXM_before_46 rfl (lv_at hl 1 rfl) ?_
  obtain ⟨h8, h⟩ := h
  refine ma_0 hx hb hK hP h8 dXM_before_47 ?_
  refine lv_aload_n hx hb dXM_before_48 rfl (lv_at hl 0 rfl) ?_
  refine mg_hash hx hb hown hts hK hP dXM_before_49 ?_
  refine lv_iload_n hx hb dXM_before_52 rfl (lv_at hl 2 rfl) ?_
  obtain ⟨h9, h⟩ := h
  refine ma_0 hx hb hK hP h9 dXM_before_53 ?_
  refine W.lcmp hx hb dXM_before_54 ?_
  refine lv_if_ge (tgt := 62) hx hb dXM_before_55 (by decide) (fun c10 => ?_) (fun c10 => ?_)
  · replace h := h.1 c10
    refine lv_iconst (v := 0) hx hb dXM_before_62 (by decide) ?_
    exact W.zret hx hb hr rfl (fun t ht hW => ⟨⟨_, (I, J, cn, cm, so), rfl, h, by rw [fxC, ht]; exact hP⟩, hS.F ht⟩) hS.2.2 dXM_before_63 hlocks
  · replace h := h.2 c10
    refine lv_iconst (v := 1) hx hb dXM_before_58 (by decide) ?_
    refine lv_goto (tgt := 63) hx hb dXM_before_59 (by decide) ?_
    exact W.zret hx hb hr rfl (fun t ht hW => ⟨⟨_, (I, J, cn, cm, so), rfl, h, by rw [fxC, ht]; exact hP⟩, hS.F ht⟩) hS.2.2 dXM_before_63 hlocks
set_option maxRecDepth 100000 in
set_option maxHeartbeats 4000000 in
theorem sMbefore_in {p : Program} {l : Launch} {e : Env} {s : State} {m : MethodId} {args : Array Value} {below : List Frame} {meth : Method} {c : Code} {D : va_G} {A : Nat → Prop} {h0 : Nat} {ad : Nat → Nat} {cI cL : ClassId} {post : Int32 → (Nat → Nat → Int32) → (Nat → Nat → Int64) → Int32 → Int64 → Int32 → Prop} (C0 : mCx p s m args meth c D A h0 ad cI cL cXM_before 4 (some .boolean)) : ∀ (I : Nat → Nat → Int32) (J : Nat → Nat → Int64) (cn : Int32) (cm : Int64) (so : Int32) (a1 : Int32) (a2 : Int32) (a3 : Int32), wMbefore post I J cn cm so a1 a2 a3 → ∀ (H : Heap) (locs : List Loc) (ls : Array Slot), mW D h0 ad cI cL (I, J, cn, cm, so) H → va_S A s.heap H locs → lv_has ls 4 [(0, .ref h0), (1, .int a1), (2, .int a2), (3, .int a3)] → W p l e ({ frames := 0, cells := 0, slots := 0, locals := 0 } : Room) s m args below meth c H locs 0 0 (MQ below (va_Qi (fun (r : Int32) (u : mS) => post r u.1 u.2.1 u.2.2.1 u.2.2.2.1 u.2.2.2.2) (fxC (mW D h0 ad cI cL)) A) args s 0 0 A) (F0 m 0 ls []) := by
  obtain ⟨hx, hb, hr, hml, hown, hts, hlocks, hK, hN, hD⟩ := id C0
  intro I J cn cm so a1 a2 a3 h H locs ls hP hS hl
  replace h : ((a3 = 0 → (wMbefore_42 post  I J cn cm so a1 a2)) ∧ (¬ a3 = 0 → (vp_in a1 40 ∧ (vp_in a2 40 ∧ (((I 5 (Int32.toNatClampNeg a1)) = (I 5 (Int32.toNatClampNeg a2)) → (wMbefore_42 post  I J cn cm so a1 a2)) ∧ (¬ (I 5 (Int32.toNatClampNeg a1)) = (I 5 (Int32.toNatClampNeg a2)) → (vp_in a1 40 ∧ (vp_in a2 40 ∧ (((I 5 (Int32.toNatClampNeg a2)) ≤ (I 5 (Int32.toNatClampNeg a1)) → (post 0 I J cn cm so)) ∧ (¬ (I 5 (Int32.toNatClampNeg a2)) ≤ (I 5 (Int32.toNatClampNeg a1)) → (post 1 I J cn cm so))))))))))) := h
  refine lv_iload_n hx hb dXM_before_0 rfl (lv_at hl 3 rfl) ?_
  refine lv_if_eq (tgt := 42) hx hb dXM_before_1 (by decide) (fun c1 => ?_) (fun c1 => ?_)
  · replace h := h.1 c1
    exact sMbefore_42  C0  I J cn cm so a1 a2 h H locs ls hP hS (lv_sub hl [0, 1, 2] rfl)
  · replace h := h.2 c1
    refine lv_aload_n hx hb dXM_before_4 rfl (lv_at hl 0 rfl) ?_
    refine mg_depth hx hb hown hts hK hP dXM_before_5 ?_
    refine lv_iload_n hx hb dXM_before_8 rfl (lv_at hl 1 rfl) ?_
    obtain ⟨h2, h⟩ := h
    refine ma_8 hx hb hK hP h2 dXM_before_9 ?_
    refine lv_aload_n hx hb dXM_before_10 rfl (lv_at hl 0 rfl) ?_
    refine mg_depth hx hb hown hts hK hP dXM_before_11 ?_
    refine lv_iload_n hx hb dXM_before_14 rfl (lv_at hl 2 rfl) ?_
    obtain ⟨h3, h⟩ := h
    refine ma_8 hx hb hK hP h3 dXM_before_15 ?_
    refine lv_icmp_eq (tgt := 42) hx hb dXM_before_16 (by decide) (fun c4 => ?_) (fun c4 => ?_)
    · replace h := h.1 c4
      exact sMbefore_42  C0  I J cn cm so a1 a2 h H locs ls hP hS (lv_sub hl [0, 1, 2] rfl)
    · replace h := h.2 c4
      refine lv_aload_n hx hb dXM_before_19 rfl (lv_at hl 0 rfl) ?_
      refine mg_depth hx hb hown hts hK hP dXM_before_20 ?_
      refine lv_iload_n hx hb dXM_before_23 rfl (lv_at hl 1 rfl) ?_
      obtain ⟨h5, h⟩ := h
      refine ma_8 hx hb hK hP h5 dXM_before_24 ?_
      refine lv_aload_n hx hb dXM_before_25 rfl (lv_at hl 0 rfl) ?_
      refine mg_depth hx hb hown hts hK hP dXM_before_26 ?_
      refine lv_iload_n hx hb dXM_before_29 rfl (lv_at hl 2 rfl) ?_
      obtain ⟨h6, h⟩ := h
      refine ma_8 hx hb hK hP h6 dXM_before_30 ?_
      refine lv_icmp_ge (tgt := 38) hx hb dXM_before_31 (by decide) (fun c7 => ?_) (fun c7 => ?_)
      · replace h := h.1 c7
        refine lv_iconst (v := 0) hx hb dXM_before_38 (by decide) ?_
        refine lv_goto (tgt := 63) hx hb dXM_before_39 (by decide) ?_
        exact W.zret hx hb hr rfl (fun t ht hW => ⟨⟨_, (I, J, cn, cm, so), rfl, h, by rw [fxC, ht]; exact hP⟩, hS.F ht⟩) hS.2.2 dXM_before_63 hlocks
      · replace h := h.2 c7
        refine lv_iconst (v := 1) hx hb dXM_before_34 (by decide) ?_
        refine lv_goto (tgt := 63) hx hb dXM_before_35 (by decide) ?_
        exact W.zret hx hb hr rfl (fun t ht hW => ⟨⟨_, (I, J, cn, cm, so), rfl, h, by rw [fxC, ht]; exact hP⟩, hS.F ht⟩) hS.2.2 dXM_before_63 hlocks
set_option maxRecDepth 100000 in
set_option maxHeartbeats 4000000 in
theorem cMbefore {l : Launch} {D : va_G} {A : Nat → Prop} {h0 : Nat} {ad : Nat → Nat} {cI cL : ClassId} (hD : mDs A h0 ad cI cL) {post : Int32 → (Nat → Nat → Int32) → (Nat → Nat → Int64) → Int32 → Int64 → Int32 → Prop} {I : Nat → Nat → Int32} {J : Nat → Nat → Int64} {cn : Int32} {cm : Int64} {so : Int32} {a1 : Int32} {a2 : Int32} {a3 : Int32} (h : wMbefore post I J cn cm so a1 a2 a3) : Met l yXM_before (.code yXM_before cXM_before 4 (some .boolean) :: lg_tbl) ({ frames := 0, cells := 0, slots := 0, locals := 0 } : Room) (va_Pc [.ref h0, .int a1, .int a2, .int a3] (fxB (mW D h0 ad cI cL (I, J, cn, cm, so)) D vwCl (mTy cI cL))) (va_Qi (fun (r : Int32) (u : mS) => post r u.1 u.2.1 u.2.2.1 u.2.2.2.1 u.2.2.2.2) (fxC (mW D h0 ad cI cL)) A) 0 0 A := by
  refine fx_start (by decide +kernel) (Nat.le_of_ble_eq_true rfl) ?_
  intro p e s m below meth c ls hx hb hr hml hown hts hlocks hnm hB hl
  exact sMbefore_in ⟨hx, hb, hr, hml, hown, hts, hlocks, hB.2.1, hB.2.2, hD⟩ I J cn cm so a1 a2 a3 h _ _ ls hB.1 va_S.rf hl
def wMsort_78 (post : (Nat → Nat → Int32) → (Nat → Nat → Int64) → Int32 → Int64 → Int32 → Prop) (K8 : (Nat → Nat → Int32) → (Nat → Nat → Int64) → Int32 → Int64 → Int32 → Int64 → Int32 → Int32 → Prop) (I : Nat → Nat → Int32) (J : Nat → Nat → Int64) (cn : Int32) (cm : Int64) (so : Int32) (v1 : Int64) (v3 : Int32) (v4 : Int32) (v5 : Int32) : Prop := (vp_in v5 40 ∧ ∀ I11, I11 = mi_up I 10 (Int32.toNatClampNeg v5) v4 → (K8 I11 J cn cm (so + 1) v1 v3 (v4 + 1)))
noncomputable def wMsort_32 (post : (Nat → Nat → Int32) → (Nat → Nat → Int64) → Int32 → Int64 → Int32 → Prop) (K8 : (Nat → Nat → Int32) → (Nat → Nat → Int64) → Int32 → Int64 → Int32 → Int64 → Int32 → Int32 → Prop) (n : Nat) : (Nat → Nat → Int32) → (Nat → Nat → Int64) → Int32 → Int64 → Int32 → Int64 → Int32 → Int32 → Int32 → Prop := Nat.rec (motive := fun _ => (Nat → Nat → Int32) → (Nat → Nat → Int64) → Int32 → Int64 → Int32 → Int64 → Int32 → Int32 → Int32 → Prop) (fun _ _ _ _ _ _ _ _ _ => False) (fun _ K32 I J cn cm so v1 v3 v4 v5 => ((v5 ≤ 0 → (wMsort_78 post K8 I J cn cm so v1 v3 v4 v5)) ∧ (¬ v5 ≤ 0 → (vp_in (v5 - 1) 40 ∧ (wMbefore (fun r6 I_6 J_6 cn_6 cm_6 so_6 => ((r6 = 0 → (wMsort_78 post K8 I_6 J_6 cn_6 cm_6 so_6 v1 v3 v4 v5)) ∧ (¬ r6 = 0 → (vp_in (v5 - 1) 40 ∧ (vp_in v5 40 ∧ ∀ I9, I9 = mi_up I_6 10 (Int32.toNatClampNeg v5) (I_6 10 (Int32.toNatClampNeg (v5 - 1))) → (K32 I9 J_6 cn_6 cm_6 so_6 v1 v3 v4 (v5 + (-1)))))))) I J cn cm so v4 (I 10 (Int32.toNatClampNeg (v5 - 1))) v3))))) n
noncomputable def wMsort_8 (post : (Nat → Nat → Int32) → (Nat → Nat → Int64) → Int32 → Int64 → Int32 → Prop) (n : Nat) : (Nat → Nat → Int32) → (Nat → Nat → Int64) → Int32 → Int64 → Int32 → Int64 → Int32 → Int32 → Prop := Nat.rec (motive := fun _ => (Nat → Nat → Int32) → (Nat → Nat → Int64) → Int32 → Int64 → Int32 → Int64 → Int32 → Int32 → Prop) (fun _ _ _ _ _ _ _ _ => False) (fun _ K8 I J cn cm so v1 v3 v4 => ((cn ≤ v4 → (post I J cn cm so)) ∧ (¬ cn ≤ v4 → (wMin (fun r2 I_2 J_2 cn_2 cm_2 so_2 => ((r2 = 0 → (K8 I_2 J_2 cn_2 cm_2 so_2 v1 v3 (v4 + 1))) ∧ (¬ r2 = 0 → (∃ k, wMsort_32 post K8 k I_2 J_2 cn_2 cm_2 so_2 v1 v3 v4 so_2)))) I J cn cm so v1 v4)))) n
def wMsort (post : (Nat → Nat → Int32) → (Nat → Nat → Int64) → Int32 → Int64 → Int32 → Prop) (I : Nat → Nat → Int32) (J : Nat → Nat → Int64) (cn : Int32) (cm : Int64) (so : Int32) (a1 : Int64) (a2 : Int32) : Prop := (∃ k, wMsort_8 post  k I J cn cm 0 a1 a2 0)
set_option maxRecDepth 100000 in
set_option maxHeartbeats 4000000 in
theorem sMsort_78 {p : Program} {l : Launch} {e : Env} {s : State} {m : MethodId} {args : Array Value} {below : List Frame} {meth : Method} {c : Code} {D : va_G} {A : Nat → Prop} {h0 : Nat} {ad : Nat → Nat} {cI cL : ClassId} {post : (Nat → Nat → Int32) → (Nat → Nat → Int64) → Int32 → Int64 → Int32 → Prop} (C0 : mCx p s m args meth c D A h0 ad cI cL cXM_sort 6 none) {K8 : (Nat → Nat → Int32) → (Nat → Nat → Int64) → Int32 → Int64 → Int32 → Int64 → Int32 → Int32 → Prop} (hK8 : ∀ (I : Nat → Nat → Int32) (J : Nat → Nat → Int64) (cn : Int32) (cm : Int64) (so : Int32) (v1 : Int64) (v3 : Int32) (v4 : Int32), K8 I J cn cm so v1 v3 v4 → ∀ (H : Heap) (locs : List Loc) (ls : Array Slot), mW D h0 ad cI cL (I, J, cn, cm, so) H → va_S A s.heap H locs → lv_has ls 6 [(0, .ref h0), (1, .long v1), (3, .int v3), (4, .int v4)] → W p l e ({ frames := 1, cells := 0, slots := 0, locals := 23 } : Room) s m args below meth c H locs 0 0 (MQ below (va_Qv (fun (u : mS) => post u.1 u.2.1 u.2.2.1 u.2.2.2.1 u.2.2.2.2) (fxC (mW D h0 ad cI cL)) A) args s 0 0 A) (F0 m 8 ls [])) : ∀ (I : Nat → Nat → Int32) (J : Nat → Nat → Int64) (cn : Int32) (cm : Int64) (so : Int32) (v1 : Int64) (v3 : Int32) (v4 : Int32) (v5 : Int32), wMsort_78 post K8 I J cn cm so v1 v3 v4 v5 → ∀ (H : Heap) (locs : List Loc) (ls : Array Slot), mW D h0 ad cI cL (I, J, cn, cm, so) H → va_S A s.heap H locs → lv_has ls 6 [(0, .ref h0), (1, .long v1), (3, .int v3), (4, .int v4), (5, .int v5)] → W p l e ({ frames := 1, cells := 0, slots := 0, locals := 23 } : Room) s m args below meth c H locs 0 0 (MQ below (va_Qv (fun (u : mS) => post u.1 u.2.1 u.2.2.1 u.2.2.2.1 u.2.2.2.2) (fxC (mW D h0 ad cI cL)) A) args s 0 0 A) (F0 m 78 ls []) := by
  obtain ⟨hx, hb, hr, hml, hown, hts, hlocks, hK, hN, hD⟩ := id C0
  intro I J cn cm so v1 v3 v4 v5 h H locs ls hP hS hl
  replace h : (vp_in v5 40 ∧ ∀ I11, I11 = mi_up I 10 (Int32.toNatClampNeg v5) v4 → (K8 I11 J cn cm (so + 1) v1 v3 (v4 + 1))) := h
  refine lv_aload_n hx hb dXM_sort_78 rfl (lv_at hl 0 rfl) ?_
  refine mg_order hx hb hown hts hK hP dXM_sort_79 ?_
  refine lv_iload hx hb dXM_sort_82 (lv_at hl 4 rfl) ?_
  refine lv_iload hx hb dXM_sort_84 (lv_at hl 3 rfl) ?_
  obtain ⟨h12, h⟩ := h
  obtain ⟨I11, eI11⟩ : ∃ y, y = mi_up I 10 (Int32.toNatClampNeg v5) v4 := ⟨_, rfl⟩
  replace h := h I11 eI11
  refine ms_18 hx hb hK hD hP hS h12 dXM_sort_86 (fun H locs hP hS => ?_)
  rw [← eI11] at hP
  refine lv_aload_n hx hb dXM_sort_87 rfl (lv_at hl 0 rfl) ?_
  refine lv_dup hx hb dXM_sort_88 rfl ?_
  refine mg_sorted hx hb hown hts hK hP dXM_sort_89 ?_
  refine lv_iconst (v := 1) hx hb dXM_sort_92 (by decide) ?_
  refine lv_iadd hx hb dXM_sort_93 ?_
  refine mp_sorted hx hb hown hts hK hD hP hS dXM_sort_94 (fun H locs hP hS => ?_)
  refine lv_iinc (v := v4 + 1) (lv' := [(4, .int (v4 + 1)), (0, .ref h0), (1, .long v1), (3, .int v3), (5, .int v5)]) hx hb dXM_sort_97 hl (k := 3) rfl rfl (by decide) rfl (fun ls hl => ?_)
  refine lv_goto (tgt := 8) hx hb dXM_sort_100 (by decide) ?_
  exact hK8 I11 J cn cm (so + 1) v1 v3 (v4 + 1) h H locs ls hP hS (lv_sub hl [1, 2, 3, 0] rfl)
set_option maxRecDepth 100000 in
set_option maxHeartbeats 4000000 in
theorem sMsort_32 {p : Program} {l : Launch} {e : Env} {s : State} {m : MethodId} {args : Array Value} {below : List Frame} {meth : Method} {c : Code} {D : va_G} {A : Nat → Prop} {h0 : Nat} {ad : Nat → Nat} {cI cL : ClassId} {post : (Nat → Nat → Int32) → (Nat → Nat → Int64) → Int32 → Int64 → Int32 → Prop} (C0 : mCx p s m args meth c D A h0 ad cI cL cXM_sort 6 none) {K8 : (Nat → Nat → Int32) → (Nat → Nat → Int64) → Int32 → Int64 → Int32 → Int64 → Int32 → Int32 → Prop} (hK8 : ∀ (I : Nat → Nat → Int32) (J : Nat → Nat → Int64) (cn : Int32) (cm : Int64) (so : Int32) (v1 : Int64) (v3 : Int32) (v4 : Int32), K8 I J cn cm so v1 v3 v4 → ∀ (H : Heap) (locs : List Loc) (ls : Array Slot), mW D h0 ad cI cL (I, J, cn, cm, so) H → va_S A s.heap H locs → lv_has ls 6 [(0, .ref h0), (1, .long v1), (3, .int v3), (4, .int v4)] → W p l e ({ frames := 1, cells := 0, slots := 0, locals := 23 } : Room) s m args below meth c H locs 0 0 (MQ below (va_Qv (fun (u : mS) => post u.1 u.2.1 u.2.2.1 u.2.2.2.1 u.2.2.2.2) (fxC (mW D h0 ad cI cL)) A) args s 0 0 A) (F0 m 8 ls [])) : ∀ (n : Nat) (I : Nat → Nat → Int32) (J : Nat → Nat → Int64) (cn : Int32) (cm : Int64) (so : Int32) (v1 : Int64) (v3 : Int32) (v4 : Int32) (v5 : Int32), wMsort_32 post K8 n I J cn cm so v1 v3 v4 v5 → ∀ (H : Heap) (locs : List Loc) (ls : Array Slot), mW D h0 ad cI cL (I, J, cn, cm, so) H → va_S A s.heap H locs → lv_has ls 6 [(0, .ref h0), (1, .long v1), (3, .int v3), (4, .int v4), (5, .int v5)] → W p l e ({ frames := 1, cells := 0, slots := 0, locals := 23 } : Room) s m args below meth c H locs 0 0 (MQ below (va_Qv (fun (u : mS) => post u.1 u.2.1 u.2.2.1 u.2.2.2.1 u.2.2.2.2) (fxC (mW D h0 ad cI cL)) A) args s 0 0 A) (F0 m 32 ls []) := by
  obtain ⟨hx, hb, hr, hml, hown, hts, hlocks, hK, hN, hD⟩ := id C0
  intro n
  induction n with
  | zero => exact fun _ _ _ _ _ _ _ _ _ h => h.elim
  | succ n hK32 =>
    intro I J cn cm so v1 v3 v4 v5 h H locs ls hP hS hl
    replace h : ((v5 ≤ 0 → (wMsort_78 post K8 I J cn cm so v1 v3 v4 v5)) ∧ (¬ v5 ≤ 0 → (vp_in (v5 - 1) 40 ∧ (wMbefore (fun r6 I_6 J_6 cn_6 cm_6 so_6 => ((r6 = 0 → (wMsort_78 post K8 I_6 J_6 cn_6 cm_6 so_6 v1 v3 v4 v5)) ∧ (¬ r6 = 0 → (vp_in (v5 - 1) 40 ∧ (vp_in v5 40 ∧ ∀ I9, I9 = mi_up I_6 10 (Int32.toNatClampNeg v5) (I_6 10 (Int32.toNatClampNeg (v5 - 1))) → ((wMsort_32 post K8 n) I9 J_6 cn_6 cm_6 so_6 v1 v3 v4 (v5 + (-1)))))))) I J cn cm so v4 (I 10 (Int32.toNatClampNeg (v5 - 1))) v3)))) := h
    refine lv_iload hx hb dXM_sort_32 (lv_at hl 4 rfl) ?_
    refine lv_if_le (tgt := 78) hx hb dXM_sort_34 (by decide) (fun c4 => ?_) (fun c4 => ?_)
    · replace h := h.1 c4
      exact sMsort_78  C0 hK8 I J cn cm so v1 v3 v4 v5 h H locs ls hP hS (lv_sub hl [0, 1, 2, 3, 4] rfl)
    · replace h := h.2 c4
      refine lv_aload_n hx hb dXM_sort_37 rfl (lv_at hl 0 rfl) ?_
      refine lv_iload hx hb dXM_sort_38 (lv_at hl 3 rfl) ?_
      refine lv_aload_n hx hb dXM_sort_40 rfl (lv_at hl 0 rfl) ?_
      refine mg_order hx hb hown hts hK hP dXM_sort_41 ?_
      refine lv_iload hx hb dXM_sort_44 (lv_at hl 4 rfl) ?_
      refine lv_iconst (v := 1) hx hb dXM_sort_46 (by decide) ?_
      refine lv_isub hx hb dXM_sort_47 ?_
      obtain ⟨h5, h⟩ := h
      refine ma_18 hx hb hK hP h5 dXM_sort_48 ?_
      refine lv_iload_n hx hb dXM_sort_49 rfl (lv_at hl 2 rfl) ?_
      refine va_calli (va_runV (As := [.int v4, .int (I 10 (Int32.toNatClampNeg (v5 - 1))), .int v3]) (rest := []) ⟨hx, hb, hml, hown, hts⟩ (cMbefore hD h) (fx_cwV 3 hts gw_M_169 hdXM_before ⟨Nat.le_of_ble_eq_true rfl, Nat.le_of_ble_eq_true rfl⟩) (fx_preV (m_recv hK hP) hP hK hN) rfl rfl hl.1 rfl (lv_room (Nat.le_of_ble_eq_true rfl)) dXM_sort_50 ⟨Nat.le_of_ble_eq_true rfl, Nat.le_of_ble_eq_true rfl⟩) hS (fun _ _ q => q) (fun _ q => q) (fun r6 u t H locs ht hvm h hP hz hk hS => ?_)
      rw [fxC, ht] at hP
      obtain ⟨I_6, J_6, cn_6, cm_6, so_6⟩ := u
      dsimp only at h
      refine lv_if_eq (tgt := 78) hx hb dXM_sort_53 (by decide) (fun c7 => ?_) (fun c7 => ?_)
      · replace h := h.1 c7
        exact sMsort_78  C0 hK8 I_6 J_6 cn_6 cm_6 so_6 v1 v3 v4 v5 h H locs ls hP hS (lv_sub hl [0, 1, 2, 3, 4] rfl)
      · replace h := h.2 c7
        refine lv_aload_n hx hb dXM_sort_56 rfl (lv_at hl 0 rfl) ?_
        refine mg_order hx hb hown hts hK hP dXM_sort_57 ?_
        refine lv_iload hx hb dXM_sort_60 (lv_at hl 4 rfl) ?_
        refine lv_aload_n hx hb dXM_sort_62 rfl (lv_at hl 0 rfl) ?_
        refine mg_order hx hb hown hts hK hP dXM_sort_63 ?_
        refine lv_iload hx hb dXM_sort_66 (lv_at hl 4 rfl) ?_
        refine lv_iconst (v := 1) hx hb dXM_sort_68 (by decide) ?_
        refine lv_isub hx hb dXM_sort_69 ?_
        obtain ⟨h8, h⟩ := h
        refine ma_18 hx hb hK hP h8 dXM_sort_70 ?_
        obtain ⟨h10, h⟩ := h
        obtain ⟨I9, eI9⟩ : ∃ y, y = mi_up I_6 10 (Int32.toNatClampNeg v5) (I_6 10 (Int32.toNatClampNeg (v5 - 1))) := ⟨_, rfl⟩
        replace h := h I9 eI9
        refine ms_18 hx hb hK hD hP hS h10 dXM_sort_71 (fun H locs hP hS => ?_)
        rw [← eI9] at hP
        refine lv_iinc (v := v5 + (-1)) (lv' := [(5, .int (v5 + (-1))), (0, .ref h0), (1, .long v1), (3, .int v3), (4, .int v4)]) hx hb dXM_sort_72 hl (k := 4) rfl rfl (by decide) rfl (fun ls hl => ?_)
        refine lv_goto (tgt := 32) hx hb dXM_sort_75 (by decide) ?_
        exact hK32 I9 J_6 cn_6 cm_6 so_6 v1 v3 v4 (v5 + (-1)) h H locs ls hP hS (lv_sub hl [1, 2, 3, 4, 0] rfl)
set_option maxRecDepth 100000 in
set_option maxHeartbeats 4000000 in
theorem sMsort_8 {p : Program} {l : Launch} {e : Env} {s : State} {m : MethodId} {args : Array Value} {below : List Frame} {meth : Method} {c : Code} {D : va_G} {A : Nat → Prop} {h0 : Nat} {ad : Nat → Nat} {cI cL : ClassId} {post : (Nat → Nat → Int32) → (Nat → Nat → Int64) → Int32 → Int64 → Int32 → Prop} (C0 : mCx p s m args meth c D A h0 ad cI cL cXM_sort 6 none) : ∀ (n : Nat) (I : Nat → Nat → Int32) (J : Nat → Nat → Int64) (cn : Int32) (cm : Int64) (so : Int32) (v1 : Int64) (v3 : Int32) (v4 : Int32), wMsort_8 post  n I J cn cm so v1 v3 v4 → ∀ (H : Heap) (locs : List Loc) (ls : Array Slot), mW D h0 ad cI cL (I, J, cn, cm, so) H → va_S A s.heap H locs → lv_has ls 6 [(0, .ref h0), (1, .long v1), (3, .int v3), (4, .int v4)] → W p l e ({ frames := 1, cells := 0, slots := 0, locals := 23 } : Room) s m args below meth c H locs 0 0 (MQ below (va_Qv (fun (u : mS) => post u.1 u.2.1 u.2.2.1 u.2.2.2.1 u.2.2.2.2) (fxC (mW D h0 ad cI cL)) A) args s 0 0 A) (F0 m 8 ls []) := by
  obtain ⟨hx, hb, hr, hml, hown, hts, hlocks, hK, hN, hD⟩ := id C0
  intro n
  induction n with
  | zero => exact fun _ _ _ _ _ _ _ _ h => h.elim
  | succ n hK8 =>
    intro I J cn cm so v1 v3 v4 h H locs ls hP hS hl
    replace h : ((cn ≤ v4 → (post I J cn cm so)) ∧ (¬ cn ≤ v4 → (wMin (fun r2 I_2 J_2 cn_2 cm_2 so_2 => ((r2 = 0 → ((wMsort_8 post  n) I_2 J_2 cn_2 cm_2 so_2 v1 v3 (v4 + 1))) ∧ (¬ r2 = 0 → (∃ k, wMsort_32 post (wMsort_8 post  n) k I_2 J_2 cn_2 cm_2 so_2 v1 v3 v4 so_2)))) I J cn cm so v1 v4))) := h
    refine lv_iload hx hb dXM_sort_8 (lv_at hl 3 rfl) ?_
    refine lv_aload_n hx hb dXM_sort_10 rfl (lv_at hl 0 rfl) ?_
    refine mg_count hx hb hown hts hK hP dXM_sort_11 ?_
    refine lv_icmp_ge (tgt := 103) hx hb dXM_sort_14 (by decide) (fun c1 => ?_) (fun c1 => ?_)
    · replace h := h.1 c1
      exact W.vret hx hb hr (fun t ht hW => ⟨⟨(I, J, cn, cm, so), rfl, h, by rw [fxC, ht]; exact hP⟩, hS.F ht⟩) hS.2.2 dXM_sort_103 hlocks
    · replace h := h.2 c1
      refine lv_lload_n hx hb dXM_sort_17 rfl (lv_at hl 1 rfl) ?_
      refine lv_iload hx hb dXM_sort_18 (lv_at hl 3 rfl) ?_
      refine va_calli (va_runS (As := [.long v1, .int v4]) (rest := []) ⟨hx, hb, hml, hown, hts⟩ (cMin hD h) (fx_cwS 2 hts gw_M_88 hdXM_in ⟨Nat.le_of_ble_eq_true rfl, Nat.le_of_ble_eq_true rfl⟩) (fx_preS hP hK hN) rfl rfl hl.1 rfl (lv_room (Nat.le_of_ble_eq_true rfl)) dXM_sort_20 ⟨Nat.le_of_ble_eq_true rfl, Nat.le_of_ble_eq_true rfl⟩) hS (fun _ _ q => q) (fun _ q => q) (fun r2 u t H locs ht hvm h hP hz hk hS => ?_)
      rw [fxC, ht] at hP
      obtain ⟨I_2, J_2, cn_2, cm_2, so_2⟩ := u
      dsimp only at h
      refine lv_if_eq (tgt := 97) hx hb dXM_sort_23 (by decide) (fun c3 => ?_) (fun c3 => ?_)
      · replace h := h.1 c3
        refine lv_iinc (v := v4 + 1) (lv' := [(4, .int (v4 + 1)), (0, .ref h0), (1, .long v1), (3, .int v3)]) hx hb dXM_sort_97 hl (k := 3) rfl rfl (by decide) rfl (fun ls hl => ?_)
        refine lv_goto (tgt := 8) hx hb dXM_sort_100 (by decide) ?_
        exact hK8 I_2 J_2 cn_2 cm_2 so_2 v1 v3 (v4 + 1) h H locs ls hP hS (lv_sub hl [1, 2, 3, 0] rfl)
      · replace h := h.2 c3
        refine lv_aload_n hx hb dXM_sort_26 rfl (lv_at hl 0 rfl) ?_
        refine mg_sorted hx hb hown hts hK hP dXM_sort_27 ?_
        refine lv_istore (lv' := [(5, .int so_2), (0, .ref h0), (1, .long v1), (3, .int v3), (4, .int v4)]) hx hb dXM_sort_30 hl (by decide) rfl (fun ls hl => ?_)
        obtain ⟨k, h⟩ := h
        exact sMsort_32  C0 hK8 k I_2 J_2 cn_2 cm_2 so_2 v1 v3 v4 so_2 h H locs ls hP hS (lv_sub hl [1, 2, 3, 4, 0] rfl)
set_option maxRecDepth 100000 in
set_option maxHeartbeats 4000000 in
theorem sMsort_in {p : Program} {l : Launch} {e : Env} {s : State} {m : MethodId} {args : Array Value} {below : List Frame} {meth : Method} {c : Code} {D : va_G} {A : Nat → Prop} {h0 : Nat} {ad : Nat → Nat} {cI cL : ClassId} {post : (Nat → Nat → Int32) → (Nat → Nat → Int64) → Int32 → Int64 → Int32 → Prop} (C0 : mCx p s m args meth c D A h0 ad cI cL cXM_sort 6 none) : ∀ (I : Nat → Nat → Int32) (J : Nat → Nat → Int64) (cn : Int32) (cm : Int64) (so : Int32) (a1 : Int64) (a2 : Int32), wMsort post I J cn cm so a1 a2 → ∀ (H : Heap) (locs : List Loc) (ls : Array Slot), mW D h0 ad cI cL (I, J, cn, cm, so) H → va_S A s.heap H locs → lv_has ls 6 [(0, .ref h0), (1, .long a1), (3, .int a2)] → W p l e ({ frames := 1, cells := 0, slots := 0, locals := 23 } : Room) s m args below meth c H locs 0 0 (MQ below (va_Qv (fun (u : mS) => post u.1 u.2.1 u.2.2.1 u.2.2.2.1 u.2.2.2.2) (fxC (mW D h0 ad cI cL)) A) args s 0 0 A) (F0 m 0 ls []) := by
  obtain ⟨hx, hb, hr, hml, hown, hts, hlocks, hK, hN, hD⟩ := id C0
  intro I J cn cm so a1 a2 h H locs ls hP hS hl
  replace h : (∃ k, wMsort_8 post  k I J cn cm 0 a1 a2 0) := h
  refine lv_aload_n hx hb dXM_sort_0 rfl (lv_at hl 0 rfl) ?_
  refine lv_iconst (v := 0) hx hb dXM_sort_1 (by decide) ?_
  refine mp_sorted hx hb hown hts hK hD hP hS dXM_sort_2 (fun H locs hP hS => ?_)
  refine lv_iconst (v := 0) hx hb dXM_sort_5 (by decide) ?_
  refine lv_istore (lv' := [(4, .int 0), (0, .ref h0), (1, .long a1), (3, .int a2)]) hx hb dXM_sort_6 hl (by decide) rfl (fun ls hl => ?_)
  obtain ⟨k, h⟩ := h
  exact sMsort_8  C0  k I J cn cm 0 a1 a2 0 h H locs ls hP hS (lv_sub hl [1, 2, 3, 0] rfl)
set_option maxRecDepth 100000 in
set_option maxHeartbeats 4000000 in
theorem cMsort {l : Launch} {D : va_G} {A : Nat → Prop} {h0 : Nat} {ad : Nat → Nat} {cI cL : ClassId} (hD : mDs A h0 ad cI cL) {post : (Nat → Nat → Int32) → (Nat → Nat → Int64) → Int32 → Int64 → Int32 → Prop} {I : Nat → Nat → Int32} {J : Nat → Nat → Int64} {cn : Int32} {cm : Int64} {so : Int32} {a1 : Int64} {a2 : Int32} (h : wMsort post I J cn cm so a1 a2) : Met l yXM_sort (.code yXM_sort cXM_sort 6 none :: lg_tbl) ({ frames := 1, cells := 0, slots := 0, locals := 23 } : Room) (va_Pc [.ref h0, .long a1, .int a2] (fxB (mW D h0 ad cI cL (I, J, cn, cm, so)) D vwCl (mTy cI cL))) (va_Qv (fun (u : mS) => post u.1 u.2.1 u.2.2.1 u.2.2.2.1 u.2.2.2.2) (fxC (mW D h0 ad cI cL)) A) 0 0 A := by
  refine fx_start (by decide +kernel) (Nat.le_of_ble_eq_true rfl) ?_
  intro p e s m below meth c ls hx hb hr hml hown hts hlocks hnm hB hl
  exact sMsort_in ⟨hx, hb, hr, hml, hown, hts, hlocks, hB.2.1, hB.2.2, hD⟩ I J cn cm so a1 a2 h _ _ ls hB.1 va_S.rf hl
