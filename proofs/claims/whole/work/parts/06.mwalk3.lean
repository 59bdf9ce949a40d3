def wMenter_111 (post : Int32 → (Nat → Nat → Int32) → (Nat → Nat → Int64) → Int32 → Int64 → Int32 → Prop) (K77 : (Nat → Nat → Int32) → (Nat → Nat → Int64) → Int32 → Int64 → Int32 → Int32 → Int32 → Prop) (I : Nat → Nat → Int32) (J : Nat → Nat → Int64) (cn : Int32) (cm : Int64) (so : Int32) (v1 : Int32) (v2 : Int32) (t0 : Int64) (t1 : Int32) : Prop := (vp_in t1 160 ∧ ∀ J28, J28 = mj_up J 1 (Int32.toNatClampNeg t1) t0 → (K77 I J28 cn cm so v1 (v2 + 1)))
noncomputable def wMenter_77 (post : Int32 → (Nat → Nat → Int32) → (Nat → Nat → Int64) → Int32 → Int64 → Int32 → Prop) (n : Nat) : (Nat → Nat → Int32) → (Nat → Nat → Int64) → Int32 → Int64 → Int32 → Int32 → Int32 → Prop := Nat.rec (motive := fun _ => (Nat → Nat → Int32) → (Nat → Nat → Int64) → Int32 → Int64 → Int32 → Int32 → Int32 → Prop) (fun _ _ _ _ _ _ _ => False) (fun _ K77 I J cn cm so v1 v2 => ((4 ≤ v2 → (wMpastOf (fun r19 I_19 J_19 cn_19 cm_19 so_19 => (vp_in v1 40 ∧ ∀ J20, J20 = mj_up J_19 2 (Int32.toNatClampNeg v1) r19 → (wMdepthOf (fun r22 I_22 J_22 cn_22 cm_22 so_22 => (vp_in v1 40 ∧ ∀ I23, I23 = mi_up I_22 5 (Int32.toNatClampNeg v1) r22 → (post v1 I23 J_22 (cn_22 + 1) cm_22 so_22))) I_19 J20 cn_19 cm_19 so_19 ))) I J cn cm so )) ∧ (¬ 4 ≤ v2 → (vp_in 4 5 ∧ (((I 9 (Int32.toNatClampNeg 4)) ≤ v2 → (wMenter_111 post K77 I J cn cm so v1 v2 0 ((4 * v1) + v2))) ∧ (¬ (I 9 (Int32.toNatClampNeg 4)) ≤ v2 → (vp_in v2 4 ∧ (wMenter_111 post K77 I J cn cm so v1 v2 (J 7 (Int32.toNatClampNeg v2)) ((4 * v1) + v2))))))))) n
def wMenter (post : Int32 → (Nat → Nat → Int32) → (Nat → Nat → Int64) → Int32 → Int64 → Int32 → Prop) (I : Nat → Nat → Int32) (J : Nat → Nat → Int64) (cn : Int32) (cm : Int64) (so : Int32) : Prop := (vp_in cn 40 ∧ ∀ J1, J1 = mj_up J 0 (Int32.toNatClampNeg cn) cm → (vp_in 0 5 ∧ (vp_in cn 40 ∧ ∀ I4, I4 = mi_up I 0 (Int32.toNatClampNeg cn) (I 9 (Int32.toNatClampNeg 0)) → (vp_in 1 5 ∧ (vp_in cn 40 ∧ ∀ I7, I7 = mi_up I4 1 (Int32.toNatClampNeg cn) (I4 9 (Int32.toNatClampNeg 1)) → (vp_in 2 5 ∧ (vp_in cn 40 ∧ ∀ I10, I10 = mi_up I7 2 (Int32.toNatClampNeg cn) (I7 9 (Int32.toNatClampNeg 2)) → (vp_in 3 5 ∧ (vp_in cn 40 ∧ ∀ I13, I13 = mi_up I10 3 (Int32.toNatClampNeg cn) (I10 9 (Int32.toNatClampNeg 3)) → (vp_in 4 5 ∧ (vp_in cn 40 ∧ ∀ I16, I16 = mi_up I13 4 (Int32.toNatClampNeg cn) (I13 9 (Int32.toNatClampNeg 4)) → (∃ k, wMenter_77 post  k I16 J1 cn cm so cn 0))))))))))))
set_option maxRecDepth 100000 in
set_option maxHeartbeats 4000000 in
theorem sMenter_111 {p : Program} {l : Launch} {e : Env} {s : State} {m : MethodId} {args : Array Value} {below : List Frame} {meth : Method} {c : Code} {D : va_G} {A : Nat → Prop} {h0 : Nat} {ad : Nat → Nat} {cI cL : ClassId} {post : Int32 → (Nat → Nat → Int32) → (Nat → Nat → Int64) → Int32 → Int64 → Int32 → Prop} (C0 : mCx p s m args meth c D A h0 ad cI cL cXM_enter 3 (some .int)) {K77 : (Nat → Nat → Int32) → (Nat → Nat → Int64) → Int32 → Int64 → Int32 → Int32 → Int32 → Prop} (hK77 : ∀ (I : Nat → Nat → Int32) (J : Nat → Nat → Int64) (cn : Int32) (cm : Int64) (so : Int32) (v1 : Int32) (v2 : Int32), K77 I J cn cm so v1 v2 → ∀ (H : Heap) (locs : List Loc) (ls : Array Slot), mW D h0 ad cI cL (I, J, cn, cm, so) H → va_S A s.heap H locs → lv_has ls 3 [(0, .ref h0), (1, .int v1), (2, .int v2)] → W p l e ({ frames := 2, cells := 0, slots := 0, locals := 48 } : Room) s m args below meth c H locs 0 0 (MQ below (va_Qi (fun (r : Int32) (u : mS) => post r u.1 u.2.1 u.2.2.1 u.2.2.2.1 u.2.2.2.2) (fxC (mW D h0 ad cI cL)) A) args s 0 0 A) (F0 m 77 ls [])) : ∀ (I : Nat → Nat → Int32) (J : Nat → Nat → Int64) (cn : Int32) (cm : Int64) (so : Int32) (v1 : Int32) (v2 : Int32) (t0 : Int64) (t1 : Int32), wMenter_111 post K77 I J cn cm so v1 v2 t0 t1 → ∀ (H : Heap) (locs : List Loc) (ls : Array Slot), mW D h0 ad cI cL (I, J, cn, cm, so) H → va_S A s.heap H locs → lv_has ls 3 [(0, .ref h0), (1, .int v1), (2, .int v2)] → W p l e ({ frames := 2, cells := 0, slots := 0, locals := 48 } : Room) s m args below meth c H locs 0 0 (MQ below (va_Qi (fun (r : Int32) (u : mS) => post r u.1 u.2.1 u.2.2.1 u.2.2.2.1 u.2.2.2.2) (fxC (mW D h0 ad cI cL)) A) args s 0 0 A) (F0 m 111 ls [.long t0, .int t1, .ref (ad 6)]) := by
  obtain ⟨hx, hb, hr, hml, hown, hts, hlocks, hK, hN, hD⟩ := id C0
  intro I J cn cm so v1 v2 t0 t1 h H locs ls hP hS hl
  replace h : (vp_in t1 160 ∧ ∀ J28, J28 = mj_up J 1 (Int32.toNatClampNeg t1) t0 → (K77 I J28 cn cm so v1 (v2 + 1))) := h
  obtain ⟨h29, h⟩ := h
  obtain ⟨J28, eJ28⟩ : ∃ y, y = mj_up J 1 (Int32.toNatClampNeg t1) t0 := ⟨_, rfl⟩
  replace h := h J28 eJ28
  refine ms_6 hx hb hK hD hP hS h29 dXM_enter_111 (fun H locs hP hS => ?_)
  rw [← eJ28] at hP
  refine lv_iinc (v := v2 + 1) (lv' := [(2, .int (v2 + 1)), (0, .ref h0), (1, .int v1)]) hx hb dXM_enter_112 hl (k := 2) rfl rfl (by decide) rfl (fun ls hl => ?_)
  refine lv_goto (tgt := 77) hx hb dXM_enter_115 (by decide) ?_
  exact hK77 I J28 cn cm so v1 (v2 + 1) h H locs ls hP hS (lv_sub hl [1, 2, 0] rfl)
set_option maxRecDepth 100000 in
set_option maxHeartbeats 4000000 in
theorem sMenter_77 {p : Program} {l : Launch} {e : Env} {s : State} {m : MethodId} {args : Array Value} {below : List Frame} {meth : Method} {c : Code} {D : va_G} {A : Nat → Prop} {h0 : Nat} {ad : Nat → Nat} {cI cL : ClassId} {post : Int32 → (Nat → Nat → Int32) → (Nat → Nat → Int64) → Int32 → Int64 → Int32 → Prop} (C0 : mCx p s m args meth c D A h0 ad cI cL cXM_enter 3 (some .int)) : ∀ (n : Nat) (I : Nat → Nat → Int32) (J : Nat → Nat → Int64) (cn : Int32) (cm : Int64) (so : Int32) (v1 : Int32) (v2 : Int32), wMenter_77 post  n I J cn cm so v1 v2 → ∀ (H : Heap) (locs : List Loc) (ls : Array Slot), mW D h0 ad cI cL (I, J, cn, cm, so) H → va_S A s.heap H locs → lv_has ls 3 [(0, .ref h0), (1, .int v1), (2, .int v2)] → W p l e ({ frames := 2, cells := 0, slots := 0, locals := 48 } : Room) s m args below meth c H locs 0 0 (MQ below (va_Qi (fun (r : Int32) (u : mS) => post r u.1 u.2.1 u.2.2.1 u.2.2.2.1 u.2.2.2.2) (fxC (mW D h0 ad cI cL)) A) args s 0 0 A) (F0 m 77 ls []) := by
  obtain ⟨hx, hb, hr, hml, hown, hts, hlocks, hK, hN, hD⟩ := id C0
  intro n
  induction n with
  | zero => exact fun _ _ _ _ _ _ _ h => h.elim
  | succ n hK77 =>
    intro I J cn cm so v1 v2 h H locs ls hP hS hl
    replace h : ((4 ≤ v2 → (wMpastOf (fun r19 I_19 J_19 cn_19 cm_19 so_19 => (vp_in v1 40 ∧ ∀ J20, J20 = mj_up J_19 2 (Int32.toNatClampNeg v1) r19 → (wMdepthOf (fun r22 I_22 J_22 cn_22 cm_22 so_22 => (vp_in v1 40 ∧ ∀ I23, I23 = mi_up I_22 5 (Int32.toNatClampNeg v1) r22 → (post v1 I23 J_22 (cn_22 + 1) cm_22 so_22))) I_19 J20 cn_19 cm_19 so_19 ))) I J cn cm so )) ∧ (¬ 4 ≤ v2 → (vp_in 4 5 ∧ (((I 9 (Int32.toNatClampNeg 4)) ≤ v2 → (wMenter_111 post (wMenter_77 post  n) I J cn cm so v1 v2 0 ((4 * v1) + v2))) ∧ (¬ (I 9 (Int32.toNatClampNeg 4)) ≤ v2 → (vp_in v2 4 ∧ (wMenter_111 post (wMenter_77 post  n) I J cn cm so v1 v2 (J 7 (Int32.toNatClampNeg v2)) ((4 * v1) + v2)))))))) := h
    refine lv_iload_n hx hb dXM_enter_77 rfl (lv_at hl 2 rfl) ?_
    refine lv_iconst (v := 4) hx hb dXM_enter_78 (by decide) ?_
    refine lv_icmp_ge (tgt := 118) hx hb dXM_enter_79 (by decide) (fun c18 => ?_) (fun c18 => ?_)
    · replace h := h.1 c18
      refine lv_aload_n hx hb dXM_enter_118 rfl (lv_at hl 0 rfl) ?_
      refine mg_past hx hb hown hts hK hP dXM_enter_119 ?_
      refine lv_iload_n hx hb dXM_enter_122 rfl (lv_at hl 1 rfl) ?_
      refine lv_aload_n hx hb dXM_enter_123 rfl (lv_at hl 0 rfl) ?_
      refine va_calll (va_runV (As := []) (rest := [.int v1, .ref (ad 7)]) ⟨hx, hb, hml, hown, hts⟩ (cMpastOf hD h) (fx_cwV 0 hts gw_M_92 hdXM_pastOf ⟨Nat.le_of_ble_eq_true rfl, Nat.le_of_ble_eq_true rfl⟩) (fx_preV (m_recv hK hP) hP hK hN) rfl rfl hl.1 rfl (lv_room (Nat.le_of_ble_eq_true rfl)) dXM_enter_124 ⟨Nat.le_of_ble_eq_true rfl, Nat.le_of_ble_eq_true rfl⟩) hS (fun _ _ q => q) (fun _ q => q) (fun r19 u t H locs ht hvm h hP hz hk hS => ?_)
      rw [fxC, ht] at hP
      obtain ⟨I_19, J_19, cn_19, cm_19, so_19⟩ := u
      dsimp only at h
      obtain ⟨h21, h⟩ := h
      obtain ⟨J20, eJ20⟩ : ∃ y, y = mj_up J_19 2 (Int32.toNatClampNeg v1) r19 := ⟨_, rfl⟩
      replace h := h J20 eJ20
      refine ms_7 hx hb hK hD hP hS h21 dXM_enter_127 (fun H locs hP hS => ?_)
      rw [← eJ20] at hP
      refine lv_aload_n hx hb dXM_enter_128 rfl (lv_at hl 0 rfl) ?_
      refine mg_depth hx hb hown hts hK hP dXM_enter_129 ?_
      refine lv_iload_n hx hb dXM_enter_132 rfl (lv_at hl 1 rfl) ?_
      refine lv_aload_n hx hb dXM_enter_133 rfl (lv_at hl 0 rfl) ?_
      refine va_calli (va_runV (As := []) (rest := [.int v1, .ref (ad 8)]) ⟨hx, hb, hml, hown, hts⟩ (cMdepthOf hD h) (fx_cwV 0 hts gw_M_96 hdXM_depthOf ⟨Nat.le_of_ble_eq_true rfl, Nat.le_of_ble_eq_true rfl⟩) (fx_preV (m_recv hK hP) hP hK hN) rfl rfl hl.1 rfl (lv_room (Nat.le_of_ble_eq_true rfl)) dXM_enter_134 ⟨Nat.le_of_ble_eq_true rfl, Nat.le_of_ble_eq_true rfl⟩) hS (fun _ _ q => q) (fun _ q => q) (fun r22 u t H locs ht hvm h hP hz hk hS => ?_)
      rw [fxC, ht] at hP
      obtain ⟨I_22, J_22, cn_22, cm_22, so_22⟩ := u
      dsimp only at h
      obtain ⟨h24, h⟩ := h
      obtain ⟨I23, eI23⟩ : ∃ y, y = mi_up I_22 5 (Int32.toNatClampNeg v1) r22 := ⟨_, rfl⟩
      replace h := h I23 eI23
      refine ms_8 hx hb hK hD hP hS h24 dXM_enter_137 (fun H locs hP hS => ?_)
      rw [← eI23] at hP
      refine lv_aload_n hx hb dXM_enter_138 rfl (lv_at hl 0 rfl) ?_
      refine lv_dup hx hb dXM_enter_139 rfl ?_
      refine mg_count hx hb hown hts hK hP dXM_enter_140 ?_
      refine lv_iconst (v := 1) hx hb dXM_enter_143 (by decide) ?_
      refine lv_iadd hx hb dXM_enter_144 ?_
      refine mp_count hx hb hown hts hK hD hP hS dXM_enter_145 (fun H locs hP hS => ?_)
      refine lv_iload_n hx hb dXM_enter_148 rfl (lv_at hl 1 rfl) ?_
      exact W.iret hx hb hr (fun t ht hW => ⟨⟨_, (I23, J_22, cn_22 + 1, cm_22, so_22), rfl, h, by rw [fxC, ht]; exact hP⟩, hS.F ht⟩) hS.2.2 dXM_enter_149 hlocks
    · replace h := h.2 c18
      refine lv_aload_n hx hb dXM_enter_82 rfl (lv_at hl 0 rfl) ?_
      refine mg_link hx hb hown hts hK hP dXM_enter_83 ?_
      refine lv_iconst (v := 4) hx hb dXM_enter_86 (by decide) ?_
      refine lv_iload_n hx hb dXM_enter_87 rfl (lv_at hl 1 rfl) ?_
      refine lv_imul hx hb dXM_enter_88 ?_
      refine lv_iload_n hx hb dXM_enter_89 rfl (lv_at hl 2 rfl) ?_
      refine lv_iadd hx hb dXM_enter_90 ?_
      refine lv_iload_n hx hb dXM_enter_91 rfl (lv_at hl 2 rfl) ?_
      refine lv_aload_n hx hb dXM_enter_92 rfl (lv_at hl 0 rfl) ?_
      refine mg_numbers hx hb hown hts hK hP dXM_enter_93 ?_
      refine lv_iconst (v := 4) hx hb dXM_enter_96 (by decide) ?_
      obtain ⟨h25, h⟩ := h
      refine ma_16 hx hb hK hP h25 dXM_enter_97 ?_
      refine lv_icmp_ge (tgt := 110) hx hb dXM_enter_98 (by decide) (fun c26 => ?_) (fun c26 => ?_)
      · replace h := h.1 c26
        refine lv_lconst (v := 0) hx hb dXM_enter_110 (by decide) ?_
        exact sMenter_111  C0 hK77 I J cn cm so v1 v2 0 ((4 * v1) + v2) h H locs ls hP hS (lv_sub hl [0, 1, 2] rfl)
      · replace h := h.2 c26
        refine lv_aload_n hx hb dXM_enter_101 rfl (lv_at hl 0 rfl) ?_
        refine mg_comingLink hx hb hown hts hK hP dXM_enter_102 ?_
        refine lv_iload_n hx hb dXM_enter_105 rfl (lv_at hl 2 rfl) ?_
        obtain ⟨h27, h⟩ := h
        refine ma_17 hx hb hK hP h27 dXM_enter_106 ?_
        refine lv_goto (tgt := 111) hx hb dXM_enter_107 (by decide) ?_
        exact sMenter_111  C0 hK77 I J cn cm so v1 v2 (J 7 (Int32.toNatClampNeg v2)) ((4 * v1) + v2) h H locs ls hP hS (lv_sub hl [0, 1, 2] rfl)
set_option maxRecDepth 100000 in
set_option maxHeartbeats 4000000 in
theorem sMenter_in {p : Program} {l : Launch} {e : Env} {s : State} {m : MethodId} {args : Array Value} {below : List Frame} {meth : Method} {c : Code} {D : va_G} {A : Nat → Prop} {h0 : Nat} {ad : Nat → Nat} {cI cL : ClassId} {post : Int32 → (Nat → Nat → Int32) → (Nat → Nat → Int64) → Int32 → Int64 → Int32 → Prop} (C0 : mCx p s m args meth c D A h0 ad cI cL cXM_enter 3 (some .int)) : ∀ (I : Nat → Nat → Int32) (J : Nat → Nat → Int64) (cn : Int32) (cm : Int64) (so : Int32), wMenter post I J cn cm so → ∀ (H : Heap) (locs : List Loc) (ls : Array Slot), mW D h0 ad cI cL (I, J, cn, cm, so) H → va_S A s.heap H locs → lv_has ls 3 [(0, .ref h0)] → W p l e ({ frames := 2, cells := 0, slots := 0, locals := 48 } : Room) s m args below meth c H locs 0 0 (MQ below (va_Qi (fun (r : Int32) (u : mS) => post r u.1 u.2.1 u.2.2.1 u.2.2.2.1 u.2.2.2.2) (fxC (mW D h0 ad cI cL)) A) args s 0 0 A) (F0 m 0 ls []) := by
  obtain ⟨hx, hb, hr, hml, hown, hts, hlocks, hK, hN, hD⟩ := id C0
  intro I J cn cm so h H locs ls hP hS hl
  replace h : (vp_in cn 40 ∧ ∀ J1, J1 = mj_up J 0 (Int32.toNatClampNeg cn) cm → (vp_in 0 5 ∧ (vp_in cn 40 ∧ ∀ I4, I4 = mi_up I 0 (Int32.toNatClampNeg cn) (I 9 (Int32.toNatClampNeg 0)) → (vp_in 1 5 ∧ (vp_in cn 40 ∧ ∀ I7, I7 = mi_up I4 1 (Int32.toNatClampNeg cn) (I4 9 (Int32.toNatClampNeg 1)) → (vp_in 2 5 ∧ (vp_in cn 40 ∧ ∀ I10, I10 = mi_up I7 2 (Int32.toNatClampNeg cn) (I7 9 (Int32.toNatClampNeg 2)) → (vp_in 3 5 ∧ (vp_in cn 40 ∧ ∀ I13, I13 = mi_up I10 3 (Int32.toNatClampNeg cn) (I10 9 (Int32.toNatClampNeg 3)) → (vp_in 4 5 ∧ (vp_in cn 40 ∧ ∀ I16, I16 = mi_up I13 4 (Int32.toNatClampNeg cn) (I13 9 (Int32.toNatClampNeg 4)) → (∃ k, wMenter_77 post  k I16 J1 cn cm so cn 0)))))))))))) := h
  refine lv_aload_n hx hb dXM_enter_0 rfl (lv_at hl 0 rfl) ?_
  refine mg_count hx hb hown hts hK hP dXM_enter_1 ?_
  refine lv_istore_n (lv' := [(1, .int cn), (0, .ref h0)]) hx hb dXM_enter_4 rfl hl (by decide) rfl (fun ls hl => ?_)
  refine lv_aload_n hx hb dXM_enter_5 rfl (lv_at hl 1 rfl) ?_
  refine mg_hash hx hb hown hts hK hP dXM_enter_6 ?_
  refine lv_iload_n hx hb dXM_enter_9 rfl (lv_at hl 0 rfl) ?_
  refine lv_aload_n hx hb dXM_enter_10 rfl (lv_at hl 1 rfl) ?_
  refine mg_coming hx hb hown hts hK hP dXM_enter_11 ?_
  obtain ⟨h2, h⟩ := h
  obtain ⟨J1, eJ1⟩ : ∃ y, y = mj_up J 0 (Int32.toNatClampNeg cn) cm := ⟨_, rfl⟩
  replace h := h J1 eJ1
  refine ms_0 hx hb hK hD hP hS h2 dXM_enter_14 (fun H locs hP hS => ?_)
  rw [← eJ1] at hP
  refine lv_aload_n hx hb dXM_enter_15 rfl (lv_at hl 1 rfl) ?_
  refine mg_author hx hb hown hts hK hP dXM_enter_16 ?_
  refine lv_iload_n hx hb dXM_enter_19 rfl (lv_at hl 0 rfl) ?_
  refine lv_aload_n hx hb dXM_enter_20 rfl (lv_at hl 1 rfl) ?_
  refine mg_numbers hx hb hown hts hK hP dXM_enter_21 ?_
  refine lv_iconst (v := 0) hx hb dXM_enter_24 (by decide) ?_
  obtain ⟨h3, h⟩ := h
  refine ma_16 hx hb hK hP h3 dXM_enter_25 ?_
  obtain ⟨h5, h⟩ := h
  obtain ⟨I4, eI4⟩ : ∃ y, y = mi_up I 0 (Int32.toNatClampNeg cn) (I 9 (Int32.toNatClampNeg 0)) := ⟨_, rfl⟩
  replace h := h I4 eI4
  refine ms_1 hx hb hK hD hP hS h5 dXM_enter_26 (fun H locs hP hS => ?_)
  rw [← eI4] at hP
  refine lv_aload_n hx hb dXM_enter_27 rfl (lv_at hl 1 rfl) ?_
  refine mg_kind hx hb hown hts hK hP dXM_enter_28 ?_
  refine lv_iload_n hx hb dXM_enter_31 rfl (lv_at hl 0 rfl) ?_
  refine lv_aload_n hx hb dXM_enter_32 rfl (lv_at hl 1 rfl) ?_
  refine mg_numbers hx hb hown hts hK hP dXM_enter_33 ?_
  refine lv_iconst (v := 1) hx hb dXM_enter_36 (by decide) ?_
  obtain ⟨h6, h⟩ := h
  refine ma_16 hx hb hK hP h6 dXM_enter_37 ?_
  obtain ⟨h8, h⟩ := h
  obtain ⟨I7, eI7⟩ : ∃ y, y = mi_up I4 1 (Int32.toNatClampNeg cn) (I4 9 (Int32.toNatClampNeg 1)) := ⟨_, rfl⟩
  replace h := h I7 eI7
  refine ms_2 hx hb hK hD hP hS h8 dXM_enter_38 (fun H locs hP hS => ?_)
  rw [← eI7] at hP
  refine lv_aload_n hx hb dXM_enter_39 rfl (lv_at hl 1 rfl) ?_
  refine mg_key hx hb hown hts hK hP dXM_enter_40 ?_
  refine lv_iload_n hx hb dXM_enter_43 rfl (lv_at hl 0 rfl) ?_
  refine lv_aload_n hx hb dXM_enter_44 rfl (lv_at hl 1 rfl) ?_
  refine mg_numbers hx hb hown hts hK hP dXM_enter_45 ?_
  refine lv_iconst (v := 2) hx hb dXM_enter_48 (by decide) ?_
  obtain ⟨h9, h⟩ := h
  refine ma_16 hx hb hK hP h9 dXM_enter_49 ?_
  obtain ⟨h11, h⟩ := h
  obtain ⟨I10, eI10⟩ : ∃ y, y = mi_up I7 2 (Int32.toNatClampNeg cn) (I7 9 (Int32.toNatClampNeg 2)) := ⟨_, rfl⟩
  replace h := h I10 eI10
  refine ms_3 hx hb hK hD hP hS h11 dXM_enter_50 (fun H locs hP hS => ?_)
  rw [← eI10] at hP
  refine lv_aload_n hx hb dXM_enter_51 rfl (lv_at hl 1 rfl) ?_
  refine mg_value hx hb hown hts hK hP dXM_enter_52 ?_
  refine lv_iload_n hx hb dXM_enter_55 rfl (lv_at hl 0 rfl) ?_
  refine lv_aload_n hx hb dXM_enter_56 rfl (lv_at hl 1 rfl) ?_
  refine mg_numbers hx hb hown hts hK hP dXM_enter_57 ?_
  refine lv_iconst (v := 3) hx hb dXM_enter_60 (by decide) ?_
  obtain ⟨h12, h⟩ := h
  refine ma_16 hx hb hK hP h12 dXM_enter_61 ?_
  obtain ⟨h14, h⟩ := h
  obtain ⟨I13, eI13⟩ : ∃ y, y = mi_up I10 3 (Int32.toNatClampNeg cn) (I10 9 (Int32.toNatClampNeg 3)) := ⟨_, rfl⟩
  replace h := h I13 eI13
  refine ms_4 hx hb hK hD hP hS h14 dXM_enter_62 (fun H locs hP hS => ?_)
  rw [← eI13] at hP
  refine lv_aload_n hx hb dXM_enter_63 rfl (lv_at hl 1 rfl) ?_
  refine mg_links hx hb hown hts hK hP dXM_enter_64 ?_
  refine lv_iload_n hx hb dXM_enter_67 rfl (lv_at hl 0 rfl) ?_
  refine lv_aload_n hx hb dXM_enter_68 rfl (lv_at hl 1 rfl) ?_
  refine mg_numbers hx hb hown hts hK hP dXM_enter_69 ?_
  refine lv_iconst (v := 4) hx hb dXM_enter_72 (by decide) ?_
  obtain ⟨h15, h⟩ := h
  refine ma_16 hx hb hK hP h15 dXM_enter_73 ?_
  obtain ⟨h17, h⟩ := h
  obtain ⟨I16, eI16⟩ : ∃ y, y = mi_up I13 4 (Int32.toNatClampNeg cn) (I13 9 (Int32.toNatClampNeg 4)) := ⟨_, rfl⟩
  replace h := h I16 eI16
  refine ms_5 hx hb hK hD hP hS h17 dXM_enter_74 (fun H locs hP hS => ?_)
  rw [← eI16] at hP
  refine lv_iconst (v := 0) hx hb dXM_enter_75 (by decide) ?_
  refine lv_istore_n (lv' := [(2, .int 0), (1, .int cn), (0, .ref h0)]) hx hb dXM_enter_76 rfl hl (by decide) rfl (fun ls hl => ?_)
  obtain ⟨k, h⟩ := h
  exact sMenter_77  C0  k I16 J1 cn cm so cn 0 h H locs ls hP hS (lv_sub hl [2, 1, 0] rfl)
set_option maxRecDepth 100000 in
set_option maxHeartbeats 4000000 in
theorem cMenter {l : Launch} {D : va_G} {A : Nat → Prop} {h0 : Nat} {ad : Nat → Nat} {cI cL : ClassId} (hD : mDs A h0 ad cI cL) {post : Int32 → (Nat → Nat → Int32) → (Nat → Nat → Int64) → Int32 → Int64 → Int32 → Prop} {I : Nat → Nat → Int32} {J : Nat → Nat → Int64} {cn : Int32} {cm : Int64} {so : Int32} (h : wMenter post I J cn cm so) : Met l yXM_enter (.code yXM_enter cXM_enter 3 (some .int) :: lg_tbl) ({ frames := 2, cells := 0, slots := 0, locals := 48 } : Room) (va_Pc [.ref h0] (fxB (mW D h0 ad cI cL (I, J, cn, cm, so)) D vwCl (mTy cI cL))) (va_Qi (fun (r : Int32) (u : mS) => post r u.1 u.2.1 u.2.2.1 u.2.2.2.1 u.2.2.2.2) (fxC (mW D h0 ad cI cL)) A) 0 0 A := by
  refine fx_start (by decide +kernel) (Nat.le_of_ble_eq_true rfl) ?_
  intro p e s m below meth c ls hx hb hr hml hown hts hlocks hnm hB hl
  exact sMenter_in ⟨hx, hb, hr, hml, hown, hts, hlocks, hB.2.1, hB.2.2, hD⟩ I J cn cm so h _ _ ls hB.1 va_S.rf hl
noncomputable def wMleave_88 (post : (Nat → Nat → Int32) → (Nat → Nat → Int64) → Int32 → Int64 → Int32 → Prop) (K17 : (Nat → Nat → Int32) → (Nat → Nat → Int64) → Int32 → Int64 → Int32 → Int32 → Int32 → Prop) (n : Nat) : (Nat → Nat → Int32) → (Nat → Nat → Int64) → Int32 → Int64 → Int32 → Int32 → Int32 → Int32 → Prop := Nat.rec (motive := fun _ => (Nat → Nat → Int32) → (Nat → Nat → Int64) → Int32 → Int64 → Int32 → Int32 → Int32 → Int32 → Prop) (fun _ _ _ _ _ _ _ _ => False) (fun _ K88 I J cn cm so v1 v3 v4 => ((4 ≤ v4 → (K17 I J cn cm so v1 (v3 + 1))) ∧ (¬ 4 ≤ v4 → (vp_in (((4 * v3) + 4) + v4) 96 ∧ (vp_in ((4 * v3) + v4) 96 ∧ ∀ J15, J15 = mj_up J 5 (Int32.toNatClampNeg ((4 * v3) + v4)) (J 5 (Int32.toNatClampNeg (((4 * v3) + 4) + v4))) → (K88 I J15 cn cm so v1 v3 (v4 + 1))))))) n
noncomputable def wMleave_49 (post : (Nat → Nat → Int32) → (Nat → Nat → Int64) → Int32 → Int64 → Int32 → Prop) (K17 : (Nat → Nat → Int32) → (Nat → Nat → Int64) → Int32 → Int64 → Int32 → Int32 → Int32 → Prop) (n : Nat) : (Nat → Nat → Int32) → (Nat → Nat → Int64) → Int32 → Int64 → Int32 → Int32 → Int32 → Int32 → Prop := Nat.rec (motive := fun _ => (Nat → Nat → Int32) → (Nat → Nat → Int64) → Int32 → Int64 → Int32 → Int32 → Int32 → Int32 → Prop) (fun _ _ _ _ _ _ _ _ => False) (fun _ K49 I J cn cm so v1 v3 v4 => ((5 ≤ v4 → (∃ k, wMleave_88 post K17 k I J cn cm so v1 v3 0)) ∧ (¬ 5 ≤ v4 → (vp_in (((5 * v3) + 5) + v4) 120 ∧ (vp_in ((5 * v3) + v4) 120 ∧ ∀ I11, I11 = mi_up I 7 (Int32.toNatClampNeg ((5 * v3) + v4)) (I 7 (Int32.toNatClampNeg (((5 * v3) + 5) + v4))) → (K49 I11 J cn cm so v1 v3 (v4 + 1))))))) n
noncomputable def wMleave_17 (post : (Nat → Nat → Int32) → (Nat → Nat → Int64) → Int32 → Int64 → Int32 → Prop) (n : Nat) : (Nat → Nat → Int32) → (Nat → Nat → Int64) → Int32 → Int64 → Int32 → Int32 → Int32 → Prop := Nat.rec (motive := fun _ => (Nat → Nat → Int32) → (Nat → Nat → Int64) → Int32 → Int64 → Int32 → Int32 → Int32 → Prop) (fun _ _ _ _ _ _ _ => False) (fun _ K17 I J cn cm so v1 v3 => (vp_in v1 4 ∧ ((((6 * v1) + (I 6 (Int32.toNatClampNeg v1))) ≤ v3 → (post I J cn cm so)) ∧ (¬ ((6 * v1) + (I 6 (Int32.toNatClampNeg v1))) ≤ v3 → (vp_in (v3 + 1) 24 ∧ (vp_in v3 24 ∧ ∀ J7, J7 = mj_up J 4 (Int32.toNatClampNeg v3) (J 4 (Int32.toNatClampNeg (v3 + 1))) → (∃ k, wMleave_49 post K17 k I J7 cn cm so v1 v3 0))))))) n
def wMleave (post : (Nat → Nat → Int32) → (Nat → Nat → Int64) → Int32 → Int64 → Int32 → Prop) (I : Nat → Nat → Int32) (J : Nat → Nat → Int64) (cn : Int32) (cm : Int64) (so : Int32) (a1 : Int32) (a2 : Int32) : Prop := (vp_in a1 4 ∧ (vp_in a1 4 ∧ ∀ I2, I2 = mi_up I 6 (Int32.toNatClampNeg a1) ((I 6 (Int32.toNatClampNeg a1)) - 1) → (∃ k, wMleave_17 post  k I2 J cn cm so a1 ((6 * a1) + a2))))
set_option maxRecDepth 100000 in
set_option maxHeartbeats 4000000 in
theorem sMleave_88 {p : Program} {l : Launch} {e : Env} {s : State} {m : MethodId} {args : Array Value} {below : List Frame} {meth : Method} {c : Code} {D : va_G} {A : Nat → Prop} {h0 : Nat} {ad : Nat → Nat} {cI cL : ClassId} {post : (Nat → Nat → Int32) → (Nat → Nat → Int64) → Int32 → Int64 → Int32 → Prop} (C0 : mCx p s m args meth c D A h0 ad cI cL cXM_leave 5 none) {K17 : (Nat → Nat → Int32) → (Nat → Nat → Int64) → Int32 → Int64 → Int32 → Int32 → Int32 → Prop} (hK17 : ∀ (I : Nat → Nat → Int32) (J : Nat → Nat → Int64) (cn : Int32) (cm : Int64) (so : Int32) (v1 : Int32) (v3 : Int32), K17 I J cn cm so v1 v3 → ∀ (H : Heap) (locs : List Loc) (ls : Array Slot), mW D h0 ad cI cL (I, J, cn, cm, so) H → va_S A s.heap H locs → lv_has ls 5 [(0, .ref h0), (1, .int v1), (3, .int v3)] → W p l e ({ frames := 0, cells := 0, slots := 0, locals := 0 } : Room) s m args below meth c H locs 0 0 (MQ below (va_Qv (fun (u : mS) => post u.1 u.2.1 u.2.2.1 u.2.2.2.1 u.2.2.2.2) (fxC (mW D h0 ad cI cL)) A) args s 0 0 A) (F0 m 17 ls [])) : ∀ (n : Nat) (I : Nat → Nat → Int32) (J : Nat → Nat → Int64) (cn : Int32) (cm : Int64) (so : Int32) (v1 : Int32) (v3 : Int32) (v4 : Int32), wMleave_88 post K17 n I J cn cm so v1 v3 v4 → ∀ (H : Heap) (locs : List Loc) (ls : Array Slot), mW D h0 ad cI cL (I, J, cn, cm, so) H → va_S A s.heap H locs → lv_has ls 5 [(0, .ref h0), (1, .int v1), (3, .int v3), (4, .int v4)] → W p l e ({ frames := 0, cells := 0, slots := 0, locals := 0 } : Room) s m args below meth c H locs 0 0 (MQ below (va_Qv (fun (u : mS) => post u.1 u.2.1 u.2.2.1 u.2.2.2.1 u.2.2.2.2) (fxC (mW D h0 ad cI cL)) A) args s 0 0 A) (F0 m 88 ls []) := by
  obtain ⟨hx, hb, hr, hml, hown, hts, hlocks, hK, hN, hD⟩ := id C0
  intro n
  induction n with
  | zero => exact fun _ _ _ _ _ _ _ _ h => h.elim
  | succ n hK88 =>
    intro I J cn cm so v1 v3 v4 h H locs ls hP hS hl
    replace h : ((4 ≤ v4 → (K17 I J cn cm so v1 (v3 + 1))) ∧ (¬ 4 ≤ v4 → (vp_in (((4 * v3) + 4) + v4) 96 ∧ (vp_in ((4 * v3) + v4) 96 ∧ ∀ J15, J15 = mj_up J 5 (Int32.toNatClampNeg ((4 * v3) + v4)) (J 5 (Int32.toNatClampNeg (((4 * v3) + 4) + v4))) → ((wMleave_88 post K17 n) I J15 cn cm so v1 v3 (v4 + 1)))))) := h
    refine lv_iload hx hb dXM_leave_88 (lv_at hl 3 rfl) ?_
    refine lv_iconst (v := 4) hx hb dXM_leave_90 (by decide) ?_
    refine lv_icmp_ge (tgt := 124) hx hb dXM_leave_91 (by decide) (fun c13 => ?_) (fun c13 => ?_)
    · replace h := h.1 c13
      refine lv_iinc (v := v3 + 1) (lv' := [(3, .int (v3 + 1)), (0, .ref h0), (1, .int v1), (4, .int v4)]) hx hb dXM_leave_124 hl (k := 2) rfl rfl (by decide) rfl (fun ls hl => ?_)
      refine lv_goto (tgt := 17) hx hb dXM_leave_127 (by decide) ?_
      exact hK17 I J cn cm so v1 (v3 + 1) h H locs ls hP hS (lv_sub hl [1, 2, 0] rfl)
    · replace h := h.2 c13
      refine lv_aload_n hx hb dXM_leave_94 rfl (lv_at hl 0 rfl) ?_
      refine mg_waitLink hx hb hown hts hK hP dXM_leave_95 ?_
      refine lv_iconst (v := 4) hx hb dXM_leave_98 (by decide) ?_
      refine lv_iload_n hx hb dXM_leave_99 rfl (lv_at hl 2 rfl) ?_
      refine lv_imul hx hb dXM_leave_100 ?_
      refine lv_iload hx hb dXM_leave_101 (lv_at hl 3 rfl) ?_
      refine lv_iadd hx hb dXM_leave_103 ?_
      refine lv_aload_n hx hb dXM_leave_104 rfl (lv_at hl 0 rfl) ?_
      refine mg_waitLink hx hb hown hts hK hP dXM_leave_105 ?_
      refine lv_iconst (v := 4) hx hb dXM_leave_108 (by decide) ?_
      refine lv_iload_n hx hb dXM_leave_109 rfl (lv_at hl 2 rfl) ?_
      refine lv_imul hx hb dXM_leave_110 ?_
      refine lv_iconst (v := 4) hx hb dXM_leave_111 (by decide) ?_
      refine lv_iadd hx hb dXM_leave_112 ?_
      refine lv_iload hx hb dXM_leave_113 (lv_at hl 3 rfl) ?_
      refine lv_iadd hx hb dXM_leave_115 ?_
      obtain ⟨h14, h⟩ := h
      refine ma_13 hx hb hK hP h14 dXM_leave_116 ?_
      obtain ⟨h16, h⟩ := h
      obtain ⟨J15, eJ15⟩ : ∃ y, y = mj_up J 5 (Int32.toNatClampNeg ((4 * v3) + v4)) (J 5 (Int32.toNatClampNeg (((4 * v3) + 4) + v4))) := ⟨_, rfl⟩
      replace h := h J15 eJ15
      refine ms_13 hx hb hK hD hP hS h16 dXM_leave_117 (fun H locs hP hS => ?_)
      rw [← eJ15] at hP
      refine lv_iinc (v := v4 + 1) (lv' := [(4, .int (v4 + 1)), (0, .ref h0), (1, .int v1), (3, .int v3)]) hx hb dXM_leave_118 hl (k := 3) rfl rfl (by decide) rfl (fun ls hl => ?_)
      refine lv_goto (tgt := 88) hx hb dXM_leave_121 (by decide) ?_
      exact hK88 I J15 cn cm so v1 v3 (v4 + 1) h H locs ls hP hS (lv_sub hl [1, 2, 3, 0] rfl)
set_option maxRecDepth 100000 in
set_option maxHeartbeats 4000000 in
theorem sMleave_49 {p : Program} {l : Launch} {e : Env} {s : State} {m : MethodId} {args : Array Value} {below : List Frame} {meth : Method} {c : Code} {D : va_G} {A : Nat → Prop} {h0 : Nat} {ad : Nat → Nat} {cI cL : ClassId} {post : (Nat → Nat → Int32) → (Nat → Nat → Int64) → Int32 → Int64 → Int32 → Prop} (C0 : mCx p s m args meth c D A h0 ad cI cL cXM_leave 5 none) {K17 : (Nat → Nat → Int32) → (Nat → Nat → Int64) → Int32 → Int64 → Int32 → Int32 → Int32 → Prop} (hK17 : ∀ (I : Nat → Nat → Int32) (J : Nat → Nat → Int64) (cn : Int32) (cm : Int64) (so : Int32) (v1 : Int32) (v3 : Int32), K17 I J cn cm so v1 v3 → ∀ (H : Heap) (locs : List Loc) (ls : Array Slot), mW D h0 ad cI cL (I, J, cn, cm, so) H → va_S A s.heap H locs → lv_has ls 5 [(0, .ref h0), (1, .int v1), (3, .int v3)] → W p l e ({ frames := 0, cells := 0, slots := 0, locals := 0 } : Room) s m args below meth c H locs 0 0 (MQ below (va_Qv (fun (u : mS) => post u.1 u.2.1 u.2.2.1 u.2.2.2.1 u.2.2.2.2) (fxC (mW D h0 ad cI cL)) A) args s 0 0 A) (F0 m 17 ls [])) : ∀ (n : Nat) (I : Nat → Nat → Int32) (J : Nat → Nat → Int64) (cn : Int32) (cm : Int64) (so : Int32) (v1 : Int32) (v3 : Int32) (v4 : Int32), wMleave_49 post K17 n I J cn cm so v1 v3 v4 → ∀ (H : Heap) (locs : List Loc) (ls : Array Slot), mW D h0 ad cI cL (I, J, cn, cm, so) H → va_S A s.heap H locs → lv_has ls 5 [(0, .ref h0), (1, .int v1), (3, .int v3), (4, .int v4)] → W p l e ({ frames := 0, cells := 0, slots := 0, locals := 0 } : Room) s m args below meth c H locs 0 0 (MQ below (va_Qv (fun (u : mS) => post u.1 u.2.1 u.2.2.1 u.2.2.2.1 u.2.2.2.2) (fxC (mW D h0 ad cI cL)) A) args s 0 0 A) (F0 m 49 ls []) := by
  obtain ⟨hx, hb, hr, hml, hown, hts, hlocks, hK, hN, hD⟩ := id C0
  intro n
  induction n with
  | zero => exact fun _ _ _ _ _ _ _ _ h => h.elim
  | succ n hK49 =>
    intro I J cn cm so v1 v3 v4 h H locs ls hP hS hl
    replace h : ((5 ≤ v4 → (∃ k, wMleave_88 post K17 k I J cn cm so v1 v3 0)) ∧ (¬ 5 ≤ v4 → (vp_in (((5 * v3) + 5) + v4) 120 ∧ (vp_in ((5 * v3) + v4) 120 ∧ ∀ I11, I11 = mi_up I 7 (Int32.toNatClampNeg ((5 * v3) + v4)) (I 7 (Int32.toNatClampNeg (((5 * v3) + 5) + v4))) → ((wMleave_49 post K17 n) I11 J cn cm so v1 v3 (v4 + 1)))))) := h
    refine lv_iload hx hb dXM_leave_49 (lv_at hl 3 rfl) ?_
    refine lv_iconst (v := 5) hx hb dXM_leave_51 (by decide) ?_
    refine lv_icmp_ge (tgt := 85) hx hb dXM_leave_52 (by decide) (fun c9 => ?_) (fun c9 => ?_)
    · replace h := h.1 c9
      refine lv_iconst (v := 0) hx hb dXM_leave_85 (by decide) ?_
      refine lv_istore (lv' := [(4, .int 0), (0, .ref h0), (1, .int v1), (3, .int v3)]) hx hb dXM_leave_86 hl (by decide) rfl (fun ls hl => ?_)
      obtain ⟨k, h⟩ := h
      exact sMleave_88  C0 hK17 k I J cn cm so v1 v3 0 h H locs ls hP hS (lv_sub hl [1, 2, 3, 0] rfl)
    · replace h := h.2 c9
      refine lv_aload_n hx hb dXM_leave_55 rfl (lv_at hl 0 rfl) ?_
      refine mg_waitNumbers hx hb hown hts hK hP dXM_leave_56 ?_
      refine lv_iconst (v := 5) hx hb dXM_leave_59 (by decide) ?_
      refine lv_iload_n hx hb dXM_leave_60 rfl (lv_at hl 2 rfl) ?_
      refine lv_imul hx hb dXM_leave_61 ?_
      refine lv_iload hx hb dXM_leave_62 (lv_at hl 3 rfl) ?_
      refine lv_iadd hx hb dXM_leave_64 ?_
      refine lv_aload_n hx hb dXM_leave_65 rfl (lv_at hl 0 rfl) ?_
      refine mg_waitNumbers hx hb hown hts hK hP dXM_leave_66 ?_
      refine lv_iconst (v := 5) hx hb dXM_leave_69 (by decide) ?_
      refine lv_iload_n hx hb dXM_leave_70 rfl (lv_at hl 2 rfl) ?_
      refine lv_imul hx hb dXM_leave_71 ?_
      refine lv_iconst (v := 5) hx hb dXM_leave_72 (by decide) ?_
      refine lv_iadd hx hb dXM_leave_73 ?_
      refine lv_iload hx hb dXM_leave_74 (lv_at hl 3 rfl) ?_
      refine lv_iadd hx hb dXM_leave_76 ?_
      obtain ⟨h10, h⟩ := h
      refine ma_12 hx hb hK hP h10 dXM_leave_77 ?_
      obtain ⟨h12, h⟩ := h
      obtain ⟨I11, eI11⟩ : ∃ y, y = mi_up I 7 (Int32.toNatClampNeg ((5 * v3) + v4)) (I 7 (Int32.toNatClampNeg (((5 * v3) + 5) + v4))) := ⟨_, rfl⟩
      replace h := h I11 eI11
      refine ms_12 hx hb hK hD hP hS h12 dXM_leave_78 (fun H locs hP hS => ?_)
      rw [← eI11] at hP
      refine lv_iinc (v := v4 + 1) (lv' := [(4, .int (v4 + 1)), (0, .ref h0), (1, .int v1), (3, .int v3)]) hx hb dXM_leave_79 hl (k := 3) rfl rfl (by decide) rfl (fun ls hl => ?_)
      refine lv_goto (tgt := 49) hx hb dXM_leave_82 (by decide) ?_
      exact hK49 I11 J cn cm so v1 v3 (v4 + 1) h H locs ls hP hS (lv_sub hl [1, 2, 3, 0] rfl)
set_option maxRecDepth 100000 in
set_option maxHeartbeats 4000000 in
theorem sMleave_17 {p : Program} {l : Launch} {e : Env} {s : State} {m : MethodId} {args : Array Value} {below : List Frame} {meth : Method} {c : Code} {D : va_G} {A : Nat → Prop} {h0 : Nat} {ad : Nat → Nat} {cI cL : ClassId} {post : (Nat → Nat → Int32) → (Nat → Nat → Int64) → Int32 → Int64 → Int32 → Prop} (C0 : mCx p s m args meth c D A h0 ad cI cL cXM_leave 5 none) : ∀ (n : Nat) (I : Nat → Nat → Int32) (J : Nat → Nat → Int64) (cn : Int32) (cm : Int64) (so : Int32) (v1 : Int32) (v3 : Int32), wMleave_17 post  n I J cn cm so v1 v3 → ∀ (H : Heap) (locs : List Loc) (ls : Array Slot), mW D h0 ad cI cL (I, J, cn, cm, so) H → va_S A s.heap H locs → lv_has ls 5 [(0, .ref h0), (1, .int v1), (3, .int v3)] → W p l e ({ frames := 0, cells := 0, slots := 0, locals := 0 } : Room) s m args below meth c H locs 0 0 (MQ below (va_Qv (fun (u : mS) => post u.1 u.2.1 u.2.2.1 u.2.2.2.1 u.2.2.2.2) (fxC (mW D h0 ad cI cL)) A) args s 0 0 A) (F0 m 17 ls []) := by
  obtain ⟨hx, hb, hr, hml, hown, hts, hlocks, hK, hN, hD⟩ := id C0
  intro n
  induction n with
  | zero => exact fun _ _ _ _ _ _ _ h => h.elim
  | succ n hK17 =>
    intro I J cn cm so v1 v3 h H locs ls hP hS hl
    replace h : (vp_in v1 4 ∧ ((((6 * v1) + (I 6 (Int32.toNatClampNeg v1))) ≤ v3 → (post I J cn cm so)) ∧ (¬ ((6 * v1) + (I 6 (Int32.toNatClampNeg v1))) ≤ v3 → (vp_in (v3 + 1) 24 ∧ (vp_in v3 24 ∧ ∀ J7, J7 = mj_up J 4 (Int32.toNatClampNeg v3) (J 4 (Int32.toNatClampNeg (v3 + 1))) → (∃ k, wMleave_49 post (wMleave_17 post  n) k I J7 cn cm so v1 v3 0)))))) := h
    refine lv_iload_n hx hb dXM_leave_17 rfl (lv_at hl 2 rfl) ?_
    refine lv_bipush (v := 6) hx hb dXM_leave_18 (by decide) ?_
    refine lv_iload_n hx hb dXM_leave_20 rfl (lv_at hl 1 rfl) ?_
    refine lv_imul hx hb dXM_leave_21 ?_
    refine lv_aload_n hx hb dXM_leave_22 rfl (lv_at hl 0 rfl) ?_
    refine mg_waits hx hb hown hts hK hP dXM_leave_23 ?_
    refine lv_iload_n hx hb dXM_leave_26 rfl (lv_at hl 1 rfl) ?_
    obtain ⟨h4, h⟩ := h
    refine ma_10 hx hb hK hP h4 dXM_leave_27 ?_
    refine lv_iadd hx hb dXM_leave_28 ?_
    refine lv_icmp_ge (tgt := 130) hx hb dXM_leave_29 (by decide) (fun c5 => ?_) (fun c5 => ?_)
    · replace h := h.1 c5
      exact W.vret hx hb hr (fun t ht hW => ⟨⟨(I, J, cn, cm, so), rfl, h, by rw [fxC, ht]; exact hP⟩, hS.F ht⟩) hS.2.2 dXM_leave_130 hlocks
    · replace h := h.2 c5
      refine lv_aload_n hx hb dXM_leave_32 rfl (lv_at hl 0 rfl) ?_
      refine mg_waitHash hx hb hown hts hK hP dXM_leave_33 ?_
      refine lv_iload_n hx hb dXM_leave_36 rfl (lv_at hl 2 rfl) ?_
      refine lv_aload_n hx hb dXM_leave_37 rfl (lv_at hl 0 rfl) ?_
      refine mg_waitHash hx hb hown hts hK hP dXM_leave_38 ?_
      refine lv_iload_n hx hb dXM_leave_41 rfl (lv_at hl 2 rfl) ?_
      refine lv_iconst (v := 1) hx hb dXM_leave_42 (by decide) ?_
      refine lv_iadd hx hb dXM_leave_43 ?_
      obtain ⟨h6, h⟩ := h
      refine ma_11 hx hb hK hP h6 dXM_leave_44 ?_
      obtain ⟨h8, h⟩ := h
      obtain ⟨J7, eJ7⟩ : ∃ y, y = mj_up J 4 (Int32.toNatClampNeg v3) (J 4 (Int32.toNatClampNeg (v3 + 1))) := ⟨_, rfl⟩
      replace h := h J7 eJ7
      refine ms_11 hx hb hK hD hP hS h8 dXM_leave_45 (fun H locs hP hS => ?_)
      rw [← eJ7] at hP
      refine lv_iconst (v := 0) hx hb dXM_leave_46 (by decide) ?_
      refine lv_istore (lv' := [(4, .int 0), (0, .ref h0), (1, .int v1), (3, .int v3)]) hx hb dXM_leave_47 hl (by decide) rfl (fun ls hl => ?_)
      obtain ⟨k, h⟩ := h
      exact sMleave_49  C0 hK17 k I J7 cn cm so v1 v3 0 h H locs ls hP hS (lv_sub hl [1, 2, 3, 0] rfl)
set_option maxRecDepth 100000 in
set_option maxHeartbeats 4000000 in
theorem sMleave_in {p : Program} {l : Launch} {e : Env} {s : State} {m : MethodId} {args : Array Value} {below : List Frame} {meth : Method} {c : Code} {D : va_G} {A : Nat → Prop} {h0 : Nat} {ad : Nat → Nat} {cI cL : ClassId} {post : (Nat → Nat → Int32) → (Nat → Nat → Int64) → Int32 → Int64 → Int32 → Prop} (C0 : mCx p s m args meth c D A h0 ad cI cL cXM_leave 5 none) : ∀ (I : Nat → Nat → Int32) (J : Nat → Nat → Int64) (cn : Int32) (cm : Int64) (so : Int32) (a1 : Int32) (a2 : Int32), wMleave post I J cn cm so a1 a2 → ∀ (H : Heap) (locs : List Loc) (ls : Array Slot), mW D h0 ad cI cL (I, J, cn, cm, so) H → va_S A s.heap H locs → lv_has ls 5 [(0, .ref h0), (1, .int a1), (2, .int a2)] → W p l e ({ frames := 0, cells := 0, slots := 0, locals := 0 } : Room) s m args below meth c H locs 0 0 (MQ below (va_Qv (fun (u : mS) => post u.1 u.2.1 u.2.2.1 u.2.2.2.1 u.2.2.2.2) (fxC (mW D h0 ad cI cL)) A) args s 0 0 A) (F0 m 0 ls []) := by
  obtain ⟨hx, hb, hr, hml, hown, hts, hlocks, hK, hN, hD⟩ := id C0
  intro I J cn cm so a1 a2 h H locs ls hP hS hl
  replace h : (vp_in a1 4 ∧ (vp_in a1 4 ∧ ∀ I2, I2 = mi_up I 6 (Int32.toNatClampNeg a1) ((I 6 (Int32.toNatClampNeg a1)) - 1) → (∃ k, wMleave_17 post  k I2 J cn cm so a1 ((6 * a1) + a2)))) := h
  refine lv_aload_n hx hb dXM_leave_0 rfl (lv_at hl 0 rfl) ?_
  refine mg_waits hx hb hown hts hK hP dXM_leave_1 ?_
  refine lv_iload_n hx hb dXM_leave_4 rfl (lv_at hl 1 rfl) ?_
  refine lv_dup2_11 hx hb dXM_leave_5 rfl rfl ?_
  obtain ⟨h1, h⟩ := h
  refine ma_10 hx hb hK hP h1 dXM_leave_6 ?_
  refine lv_iconst (v := 1) hx hb dXM_leave_7 (by decide) ?_
  refine lv_isub hx hb dXM_leave_8 ?_
  obtain ⟨h3, h⟩ := h
  obtain ⟨I2, eI2⟩ : ∃ y, y = mi_up I 6 (Int32.toNatClampNeg a1) ((I 6 (Int32.toNatClampNeg a1)) - 1) := ⟨_, rfl⟩
  replace h := h I2 eI2
  refine ms_10 hx hb hK hD hP hS h3 dXM_leave_9 (fun H locs hP hS => ?_)
  rw [← eI2] at hP
  refine lv_bipush (v := 6) hx hb dXM_leave_10 (by decide) ?_
  refine lv_iload_n hx hb dXM_leave_12 rfl (lv_at hl 1 rfl) ?_
  refine lv_imul hx hb dXM_leave_13 ?_
  refine lv_iload_n hx hb dXM_leave_14 rfl (lv_at hl 2 rfl) ?_
  refine lv_iadd hx hb dXM_leave_15 ?_
  refine lv_istore_n (lv' := [(3, .int ((6 * a1) + a2)), (0, .ref h0), (1, .int a1), (2, .int a2)]) hx hb dXM_leave_16 rfl hl (by decide) rfl (fun ls hl => ?_)
  obtain ⟨k, h⟩ := h
  exact sMleave_17  C0  k I2 J cn cm so a1 ((6 * a1) + a2) h H locs ls hP hS (lv_sub hl [1, 2, 0] rfl)
set_option maxRecDepth 100000 in
set_option maxHeartbeats 4000000 in
theorem cMleave {l : Launch} {D : va_G} {A : Nat → Prop} {h0 : Nat} {ad : Nat → Nat} {cI cL : ClassId} (hD : mDs A h0 ad cI cL) {post : (Nat → Nat → Int32) → (Nat → Nat → Int64) → Int32 → Int64 → Int32 → Prop} {I : Nat → Nat → Int32} {J : Nat → Nat → Int64} {cn : Int32} {cm : Int64} {so : Int32} {a1 : Int32} {a2 : Int32} (h : wMleave post I J cn cm so a1 a2) : Met l yXM_leave (.code yXM_leave cXM_leave 5 none :: lg_tbl) ({ frames := 0, cells := 0, slots := 0, locals := 0 } : Room) (va_Pc [.ref h0, .int a1, .int a2] (fxB (mW D h0 ad cI cL (I, J, cn, cm, so)) D vwCl (mTy cI cL))) (va_Qv (fun (u : mS) => post u.1 u.2.1 u.2.2.1 u.2.2.2.1 u.2.2.2.2) (fxC (mW D h0 ad cI cL)) A) 0 0 A := by
  refine fx_start (by decide +kernel) (Nat.le_of_ble_eq_true rfl) ?_
  intro p e s m below meth c ls hx hb hr hml hown hts hlocks hnm hB hl
  exact sMleave_in ⟨hx, hb, hr, hml, hown, hts, hlocks, hB.2.1, hB.2.2, hD⟩ I J cn cm so a1 a2 h _ _ ls hB.1 va_S.rf hl
noncomputable def wMwaitAt_112 (post : (Nat → Nat → Int32) → (Nat → Nat → Int64) → Int32 → Int64 → Int32 → Prop) (n : Nat) : (Nat → Nat → Int32) → (Nat → Nat → Int64) → Int32 → Int64 → Int32 → Int32 → Int32 → Int32 → Prop := Nat.rec (motive := fun _ => (Nat → Nat → Int32) → (Nat → Nat → Int64) → Int32 → Int64 → Int32 → Int32 → Int32 → Int32 → Prop) (fun _ _ _ _ _ _ _ _ => False) (fun _ K112 I J cn cm so v1 v3 v4 => ((4 ≤ v4 → (vp_in v1 4 ∧ (vp_in v1 4 ∧ ∀ I17, I17 = mi_up I 6 (Int32.toNatClampNeg v1) ((I 6 (Int32.toNatClampNeg v1)) + 1) → (vp_in v1 4 ∧ ((¬ (I17 6 (Int32.toNatClampNeg v1)) = 6 → (post I17 J cn cm so)) ∧ ((I17 6 (Int32.toNatClampNeg v1)) = 6 → (wMleave (fun I_21 J_21 cn_21 cm_21 so_21 => (post I_21 J_21 cn_21 cm_21 so_21)) I17 J cn cm so v1 0))))))) ∧ (¬ 4 ≤ v4 → (vp_in v4 4 ∧ (vp_in ((4 * v3) + v4) 96 ∧ ∀ J23, J23 = mj_up J 5 (Int32.toNatClampNeg ((4 * v3) + v4)) (J 7 (Int32.toNatClampNeg v4)) → (K112 I J23 cn cm so v1 v3 (v4 + 1))))))) n
noncomputable def wMwaitAt_79 (post : (Nat → Nat → Int32) → (Nat → Nat → Int64) → Int32 → Int64 → Int32 → Prop) (n : Nat) : (Nat → Nat → Int32) → (Nat → Nat → Int64) → Int32 → Int64 → Int32 → Int32 → Int32 → Int32 → Prop := Nat.rec (motive := fun _ => (Nat → Nat → Int32) → (Nat → Nat → Int64) → Int32 → Int64 → Int32 → Int32 → Int32 → Int32 → Prop) (fun _ _ _ _ _ _ _ _ => False) (fun _ K79 I J cn cm so v1 v3 v4 => ((5 ≤ v4 → (∃ k, wMwaitAt_112 post  k I J cn cm so v1 v3 0)) ∧ (¬ 5 ≤ v4 → (vp_in v4 5 ∧ (vp_in ((5 * v3) + v4) 120 ∧ ∀ I13, I13 = mi_up I 7 (Int32.toNatClampNeg ((5 * v3) + v4)) (I 9 (Int32.toNatClampNeg v4)) → (K79 I13 J cn cm so v1 v3 (v4 + 1))))))) n
noncomputable def wMwaitAt_4 (post : (Nat → Nat → Int32) → (Nat → Nat → Int64) → Int32 → Int64 → Int32 → Prop) (n : Nat) : (Nat → Nat → Int32) → (Nat → Nat → Int64) → Int32 → Int64 → Int32 → Int32 → Int32 → Int32 → Prop := Nat.rec (motive := fun _ => (Nat → Nat → Int32) → (Nat → Nat → Int64) → Int32 → Int64 → Int32 → Int32 → Int32 → Int32 → Prop) (fun _ _ _ _ _ _ _ _ => False) (fun _ K4 I J cn cm so v1 v2 v3 => (vp_in v1 4 ∧ (((I 6 (Int32.toNatClampNeg v1)) ≤ v3 → ((v2 = 0 → (vp_in v1 4 ∧ ∀ x5, x5 = (6 * v1) + (I 6 (Int32.toNatClampNeg v1)) → (vp_in x5 24 ∧ ∀ J6, J6 = mj_up J 4 (Int32.toNatClampNeg x5) cm → (∃ k, wMwaitAt_79 post  k I J6 cn cm so v1 x5 0)))) ∧ (¬ v2 = 0 → (post I J cn cm so)))) ∧ (¬ (I 6 (Int32.toNatClampNeg v1)) ≤ v3 → ((¬ v2 = 0 → (K4 I J cn cm so v1 1 (v3 + 1))) ∧ (v2 = 0 → (vp_in ((6 * v1) + v3) 24 ∧ ((¬ (lg_cmp (J 4 (Int32.toNatClampNeg ((6 * v1) + v3))) cm) = 0 → (K4 I J cn cm so v1 0 (v3 + 1))) ∧ ((lg_cmp (J 4 (Int32.toNatClampNeg ((6 * v1) + v3))) cm) = 0 → (K4 I J cn cm so v1 1 (v3 + 1))))))))))) n
def wMwaitAt (post : (Nat → Nat → Int32) → (Nat → Nat → Int64) → Int32 → Int64 → Int32 → Prop) (I : Nat → Nat → Int32) (J : Nat → Nat → Int64) (cn : Int32) (cm : Int64) (so : Int32) (a1 : Int32) : Prop := (∃ k, wMwaitAt_4 post  k I J cn cm so a1 0 0)
set_option maxRecDepth 100000 in
set_option maxHeartbeats 4000000 in
theorem sMwaitAt_112 {p : Program} {l : Launch} {e : Env} {s : State} {m : MethodId} {args : Array Value} {below : List Frame} {meth : Method} {c : Code} {D : va_G} {A : Nat → Prop} {h0 : Nat} {ad : Nat → Nat} {cI cL : ClassId} {post : (Nat → Nat → Int32) → (Nat → Nat → Int64) → Int32 → Int64 → Int32 → Prop} (C0 : mCx p s m args meth c D A h0 ad cI cL cXM_waitAt 5 none) : ∀ (n : Nat) (I : Nat → Nat → Int32) (J : Nat → Nat → Int64) (cn : Int32) (cm : Int64) (so : Int32) (v1 : Int32) (v3 : Int32) (v4 : Int32), wMwaitAt_112 post  n I J cn cm so v1 v3 v4 → ∀ (H : Heap) (locs : List Loc) (ls : Array Slot), mW D h0 ad cI cL (I, J, cn, cm, so) H → va_S A s.heap H locs → lv_has ls 5 [(0, .ref h0), (1, .int v1), (3, .int v3), (4, .int v4)] → W p l e ({ frames := 1, cells := 0, slots := 0, locals := 24 } : Room) s m args below meth c H locs 0 0 (MQ below (va_Qv (fun (u : mS) => post u.1 u.2.1 u.2.2.1 u.2.2.2.1 u.2.2.2.2) (fxC (mW D h0 ad cI cL)) A) args s 0 0 A) (F0 m 112 ls []) := by
  obtain ⟨hx, hb, hr, hml, hown, hts, hlocks, hK, hN, hD⟩ := id C0
  intro n
  induction n with
  | zero => exact fun _ _ _ _ _ _ _ _ h => h.elim
  | succ n hK112 =>
    intro I J cn cm so v1 v3 v4 h H locs ls hP hS hl
    replace h : ((4 ≤ v4 → (vp_in v1 4 ∧ (vp_in v1 4 ∧ ∀ I17, I17 = mi_up I 6 (Int32.toNatClampNeg v1) ((I 6 (Int32.toNatClampNeg v1)) + 1) → (vp_in v1 4 ∧ ((¬ (I17 6 (Int32.toNatClampNeg v1)) = 6 → (post I17 J cn cm so)) ∧ ((I17 6 (Int32.toNatClampNeg v1)) = 6 → (wMleave (fun I_21 J_21 cn_21 cm_21 so_21 => (post I_21 J_21 cn_21 cm_21 so_21)) I17 J cn cm so v1 0))))))) ∧ (¬ 4 ≤ v4 → (vp_in v4 4 ∧ (vp_in ((4 * v3) + v4) 96 ∧ ∀ J23, J23 = mj_up J 5 (Int32.toNatClampNeg ((4 * v3) + v4)) (J 7 (Int32.toNatClampNeg v4)) → ((wMwaitAt_112 post  n) I J23 cn cm so v1 v3 (v4 + 1)))))) := h
    refine lv_iload hx hb dXM_waitAt_112 (lv_at hl 3 rfl) ?_
    refine lv_iconst (v := 4) hx hb dXM_waitAt_114 (by decide) ?_
    refine lv_icmp_ge (tgt := 142) hx hb dXM_waitAt_115 (by decide) (fun c15 => ?_) (fun c15 => ?_)
    · replace h := h.1 c15
      refine lv_aload_n hx hb dXM_waitAt_142 rfl (lv_at hl 0 rfl) ?_
      refine mg_waits hx hb hown hts hK hP dXM_waitAt_143 ?_
      refine lv_iload_n hx hb dXM_waitAt_146 rfl (lv_at hl 1 rfl) ?_
      refine lv_dup2_11 hx hb dXM_waitAt_147 rfl rfl ?_
      obtain ⟨h16, h⟩ := h
      refine ma_10 hx hb hK hP h16 dXM_waitAt_148 ?_
      refine lv_iconst (v := 1) hx hb dXM_waitAt_149 (by decide) ?_
      refine lv_iadd hx hb dXM_waitAt_150 ?_
      obtain ⟨h18, h⟩ := h
      obtain ⟨I17, eI17⟩ : ∃ y, y = mi_up I 6 (Int32.toNatClampNeg v1) ((I 6 (Int32.toNatClampNeg v1)) + 1) := ⟨_, rfl⟩
      replace h := h I17 eI17
      refine ms_10 hx hb hK hD hP hS h18 dXM_waitAt_151 (fun H locs hP hS => ?_)
      rw [← eI17] at hP
      refine lv_aload_n hx hb dXM_waitAt_152 rfl (lv_at hl 0 rfl) ?_
      refine mg_waits hx hb hown hts hK hP dXM_waitAt_153 ?_
      refine lv_iload_n hx hb dXM_waitAt_156 rfl (lv_at hl 1 rfl) ?_
      obtain ⟨h19, h⟩ := h
      refine ma_10 hx hb hK hP h19 dXM_waitAt_157 ?_
      refine lv_bipush (v := 6) hx hb dXM_waitAt_158 (by decide) ?_
      refine lv_icmp_ne (tgt := 169) hx hb dXM_waitAt_160 (by decide) (fun c20 => ?_) (fun c20 => ?_)
      · replace h := h.1 c20
        exact W.vret hx hb hr (fun t ht hW => ⟨⟨(I17, J, cn, cm, so), rfl, h, by rw [fxC, ht]; exact hP⟩, hS.F ht⟩) hS.2.2 dXM_waitAt_169 hlocks
      · replace h := h.2 c20
        refine lv_aload_n hx hb dXM_waitAt_163 rfl (lv_at hl 0 rfl) ?_
        refine lv_iload_n hx hb dXM_waitAt_164 rfl (lv_at hl 1 rfl) ?_
        refine lv_iconst (v := 0) hx hb dXM_waitAt_165 (by decide) ?_
        refine va_callv (va_runV (As := [.int v1, .int 0]) (rest := []) ⟨hx, hb, hml, hown, hts⟩ (cMleave hD h) (fx_cwV 2 hts gw_M_100 hdXM_leave ⟨Nat.le_of_ble_eq_true rfl, Nat.le_of_ble_eq_true rfl⟩) (fx_preV (m_recv hK hP) hP hK hN) rfl rfl hl.1 rfl (lv_room (Nat.le_of_ble_eq_true rfl)) dXM_waitAt_166 ⟨Nat.le_of_ble_eq_true rfl, Nat.le_of_ble_eq_true rfl⟩) hS (fun _ _ q => q) (fun _ q => q) (fun u t H locs ht hvm h hP hz hk hS => ?_)
        rw [fxC, ht] at hP
        obtain ⟨I_21, J_21, cn_21, cm_21, so_21⟩ := u
        dsimp only at h
        exact W.vret hx hb hr (fun t ht hW => ⟨⟨(I_21, J_21, cn_21, cm_21, so_21), rfl, h, by rw [fxC, ht]; exact hP⟩, hS.F ht⟩) hS.2.2 dXM_waitAt_169 hlocks
    · replace h := h.2 c15
      refine lv_aload_n hx hb dXM_waitAt_118 rfl (lv_at hl 0 rfl) ?_
      refine mg_waitLink hx hb hown hts hK hP dXM_waitAt_119 ?_
      refine lv_iconst (v := 4) hx hb dXM_waitAt_122 (by decide) ?_
      refine lv_iload_n hx hb dXM_waitAt_123 rfl (lv_at hl 2 rfl) ?_
      refine lv_imul hx hb dXM_waitAt_124 ?_
      refine lv_iload hx hb dXM_waitAt_125 (lv_at hl 3 rfl) ?_
      refine lv_iadd hx hb dXM_waitAt_127 ?_
      refine lv_aload_n hx hb dXM_waitAt_128 rfl (lv_at hl 0 rfl) ?_
      refine mg_comingLink hx hb hown hts hK hP dXM_waitAt_129 ?_
      refine lv_iload hx hb dXM_waitAt_132 (lv_at hl 3 rfl) ?_
      obtain ⟨h22, h⟩ := h
      refine ma_17 hx hb hK hP h22 dXM_waitAt_134 ?_
      obtain ⟨h24, h⟩ := h
      obtain ⟨J23, eJ23⟩ : ∃ y, y = mj_up J 5 (Int32.toNatClampNeg ((4 * v3) + v4)) (J 7 (Int32.toNatClampNeg v4)) := ⟨_, rfl⟩
      replace h := h J23 eJ23
      refine ms_13 hx hb hK hD hP hS h24 dXM_waitAt_135 (fun H locs hP hS => ?_)
      rw [← eJ23] at hP
      refine lv_iinc (v := v4 + 1) (lv' := [(4, .int (v4 + 1)), (0, .ref h0), (1, .int v1), (3, .int v3)]) hx hb dXM_waitAt_136 hl (k := 3) rfl rfl (by decide) rfl (fun ls hl => ?_)
      refine lv_goto (tgt := 112) hx hb dXM_waitAt_139 (by decide) ?_
      exact hK112 I J23 cn cm so v1 v3 (v4 + 1) h H locs ls hP hS (lv_sub hl [1, 2, 3, 0] rfl)
set_option maxRecDepth 100000 in
set_option maxHeartbeats 4000000 in
theorem sMwaitAt_79 {p : Program} {l : Launch} {e : Env} {s : State} {m : MethodId} {args : Array Value} {below : List Frame} {meth : Method} {c : Code} {D : va_G} {A : Nat → Prop} {h0 : Nat} {ad : Nat → Nat} {cI cL : ClassId} {post : (Nat → Nat → Int32) → (Nat → Nat → Int64) → Int32 → Int64 → Int32 → Prop} (C0 : mCx p s m args meth c D A h0 ad cI cL cXM_waitAt 5 none) : ∀ (n : Nat) (I : Nat → Nat → Int32) (J : Nat → Nat → Int64) (cn : Int32) (cm : Int64) (so : Int32) (v1 : Int32) (v3 : Int32) (v4 : Int32), wMwaitAt_79 post  n I J cn cm so v1 v3 v4 → ∀ (H : Heap) (locs : List Loc) (ls : Array Slot), mW D h0 ad cI cL (I, J, cn, cm, so) H → va_S A s.heap H locs → lv_has ls 5 [(0, .ref h0), (1, .int v1), (3, .int v3), (4, .int v4)] → W p l e ({ frames := 1, cells := 0, slots := 0, locals := 24 } : Room) s m args below meth c H locs 0 0 (MQ below (va_Qv (fun (u : mS) => post u.1 u.2.1 u.2.2.1 u.2.2.2.1 u.2.2.2.2) (fxC (mW D h0 ad cI cL)) A) args s 0 0 A) (F0 m 79 ls []) := by
  obtain ⟨hx, hb, hr, hml, hown, hts, hlocks, hK, hN, hD⟩ := id C0
  intro n
  induction n with
  | zero => exact fun _ _ _ _ _ _ _ _ h => h.elim
  | succ n hK79 =>
    intro I J cn cm so v1 v3 v4 h H locs ls hP hS hl
    replace h : ((5 ≤ v4 → (∃ k, wMwaitAt_112 post  k I J cn cm so v1 v3 0)) ∧ (¬ 5 ≤ v4 → (vp_in v4 5 ∧ (vp_in ((5 * v3) + v4) 120 ∧ ∀ I13, I13 = mi_up I 7 (Int32.toNatClampNeg ((5 * v3) + v4)) (I 9 (Int32.toNatClampNeg v4)) → ((wMwaitAt_79 post  n) I13 J cn cm so v1 v3 (v4 + 1)))))) := h
    refine lv_iload hx hb dXM_waitAt_79 (lv_at hl 3 rfl) ?_
    refine lv_iconst (v := 5) hx hb dXM_waitAt_81 (by decide) ?_
    refine lv_icmp_ge (tgt := 109) hx hb dXM_waitAt_82 (by decide) (fun c11 => ?_) (fun c11 => ?_)
    · replace h := h.1 c11
      refine lv_iconst (v := 0) hx hb dXM_waitAt_109 (by decide) ?_
      refine lv_istore (lv' := [(4, .int 0), (0, .ref h0), (1, .int v1), (3, .int v3)]) hx hb dXM_waitAt_110 hl (by decide) rfl (fun ls hl => ?_)
      obtain ⟨k, h⟩ := h
      exact sMwaitAt_112  C0  k I J cn cm so v1 v3 0 h H locs ls hP hS (lv_sub hl [1, 2, 3, 0] rfl)
    · replace h := h.2 c11
      refine lv_aload_n hx hb dXM_waitAt_85 rfl (lv_at hl 0 rfl) ?_
      refine mg_waitNumbers hx hb hown hts hK hP dXM_waitAt_86 ?_
      refine lv_iconst (v := 5) hx hb dXM_waitAt_89 (by decide) ?_
      refine lv_iload_n hx hb dXM_waitAt_90 rfl (lv_at hl 2 rfl) ?_
      refine lv_imul hx hb dXM_waitAt_91 ?_
      refine lv_iload hx hb dXM_waitAt_92 (lv_at hl 3 rfl) ?_
      refine lv_iadd hx hb dXM_waitAt_94 ?_
      refine lv_aload_n hx hb dXM_waitAt_95 rfl (lv_at hl 0 rfl) ?_
      refine mg_numbers hx hb hown hts hK hP dXM_waitAt_96 ?_
      refine lv_iload hx hb dXM_waitAt_99 (lv_at hl 3 rfl) ?_
      obtain ⟨h12, h⟩ := h
      refine ma_16 hx hb hK hP h12 dXM_waitAt_101 ?_
      obtain ⟨h14, h⟩ := h
      obtain ⟨I13, eI13⟩ : ∃ y, y = mi_up I 7 (Int32.toNatClampNeg ((5 * v3) + v4)) (I 9 (Int32.toNatClampNeg v4)) := ⟨_, rfl⟩
      replace h := h I13 eI13
      refine ms_12 hx hb hK hD hP hS h14 dXM_waitAt_102 (fun H locs hP hS => ?_)
      rw [← eI13] at hP
      refine lv_iinc (v := v4 + 1) (lv' := [(4, .int (v4 + 1)), (0, .ref h0), (1, .int v1), (3, .int v3)]) hx hb dXM_waitAt_103 hl (k := 3) rfl rfl (by decide) rfl (fun ls hl => ?_)
      refine lv_goto (tgt := 79) hx hb dXM_waitAt_106 (by decide) ?_
      exact hK79 I13 J cn cm so v1 v3 (v4 + 1) h H locs ls hP hS (lv_sub hl [1, 2, 3, 0] rfl)
set_option maxRecDepth 100000 in
set_option maxHeartbeats 4000000 in
theorem sMwaitAt_4 {p : Program} {l : Launch} {e : Env} {s : State} {m : MethodId} {args : Array Value} {below : List Frame} {meth : Method} {c : Code} {D : va_G} {A : Nat → Prop} {h0 : Nat} {ad : Nat → Nat} {cI cL : ClassId} {post : (Nat → Nat → Int32) → (Nat → Nat → Int64) → Int32 → Int64 → Int32 → Prop} (C0 : mCx p s m args meth c D A h0 ad cI cL cXM_waitAt 5 none) : ∀ (n : Nat) (I : Nat → Nat → Int32) (J : Nat → Nat → Int64) (cn : Int32) (cm : Int64) (so : Int32) (v1 : Int32) (v2 : Int32) (v3 : Int32), wMwaitAt_4 post  n I J cn cm so v1 v2 v3 → ∀ (H : Heap) (locs : List Loc) (ls : Array Slot), mW D h0 ad cI cL (I, J, cn, cm, so) H → va_S A s.heap H locs → lv_has ls 5 [(0, .ref h0), (1, .int v1), (2, .int v2), (3, .int v3)] → W p l e ({ frames := 1, cells := 0, slots := 0, locals := 24 } : Room) s m args below meth c H locs 0 0 (MQ below (va_Qv (fun (u : mS) => post u.1 u.2.1 u.2.2.1 u.2.2.2.1 u.2.2.2.2) (fxC (mW D h0 ad cI cL)) A) args s 0 0 A) (F0 m 4 ls []) := by
  obtain ⟨hx, hb, hr, hml, hown, hts, hlocks, hK, hN, hD⟩ := id C0
  intro n
  induction n with
  | zero => exact fun _ _ _ _ _ _ _ _ h => h.elim
  | succ n hK4 =>
    intro I J cn cm so v1 v2 v3 h H locs ls hP hS hl
    replace h : (vp_in v1 4 ∧ (((I 6 (Int32.toNatClampNeg v1)) ≤ v3 → ((v2 = 0 → (vp_in v1 4 ∧ ∀ x5, x5 = (6 * v1) + (I 6 (Int32.toNatClampNeg v1)) → (vp_in x5 24 ∧ ∀ J6, J6 = mj_up J 4 (Int32.toNatClampNeg x5) cm → (∃ k, wMwaitAt_79 post  k I J6 cn cm so v1 x5 0)))) ∧ (¬ v2 = 0 → (post I J cn cm so)))) ∧ (¬ (I 6 (Int32.toNatClampNeg v1)) ≤ v3 → ((¬ v2 = 0 → ((wMwaitAt_4 post  n) I J cn cm so v1 1 (v3 + 1))) ∧ (v2 = 0 → (vp_in ((6 * v1) + v3) 24 ∧ ((¬ (lg_cmp (J 4 (Int32.toNatClampNeg ((6 * v1) + v3))) cm) = 0 → ((wMwaitAt_4 post  n) I J cn cm so v1 0 (v3 + 1))) ∧ ((lg_cmp (J 4 (Int32.toNatClampNeg ((6 * v1) + v3))) cm) = 0 → ((wMwaitAt_4 post  n) I J cn cm so v1 1 (v3 + 1)))))))))) := h
    refine lv_iload_n hx hb dXM_waitAt_4 rfl (lv_at hl 3 rfl) ?_
    refine lv_aload_n hx hb dXM_waitAt_5 rfl (lv_at hl 0 rfl) ?_
    refine mg_waits hx hb hown hts hK hP dXM_waitAt_6 ?_
    refine lv_iload_n hx hb dXM_waitAt_9 rfl (lv_at hl 1 rfl) ?_
    obtain ⟨h1, h⟩ := h
    refine ma_10 hx hb hK hP h1 dXM_waitAt_10 ?_
    refine lv_icmp_ge (tgt := 49) hx hb dXM_waitAt_11 (by decide) (fun c2 => ?_) (fun c2 => ?_)
    · replace h := h.1 c2
      refine lv_iload_n hx hb dXM_waitAt_49 rfl (lv_at hl 2 rfl) ?_
      refine lv_if_eq (tgt := 54) hx hb dXM_waitAt_50 (by decide) (fun c3 => ?_) (fun c3 => ?_)
      · replace h := h.1 c3
        refine lv_bipush (v := 6) hx hb dXM_waitAt_54 (by decide) ?_
        refine lv_iload_n hx hb dXM_waitAt_56 rfl (lv_at hl 1 rfl) ?_
        refine lv_imul hx hb dXM_waitAt_57 ?_
        refine lv_aload_n hx hb dXM_waitAt_58 rfl (lv_at hl 0 rfl) ?_
        refine mg_waits hx hb hown hts hK hP dXM_waitAt_59 ?_
        refine lv_iload_n hx hb dXM_waitAt_62 rfl (lv_at hl 1 rfl) ?_
        obtain ⟨h4, h⟩ := h
        refine ma_10 hx hb hK hP h4 dXM_waitAt_63 ?_
        refine lv_iadd hx hb dXM_waitAt_64 ?_
        refine lv_topi (fun x5 ex5 => ?_)
        replace h := h x5 ex5
        refine lv_istore_n (lv' := [(3, .int x5), (0, .ref h0), (1, .int v1), (2, .int v2)]) hx hb dXM_waitAt_65 rfl hl (by decide) rfl (fun ls hl => ?_)
        refine lv_aload_n hx hb dXM_waitAt_66 rfl (lv_at hl 1 rfl) ?_
        refine mg_waitHash hx hb hown hts hK hP dXM_waitAt_67 ?_
        refine lv_iload_n hx hb dXM_waitAt_70 rfl (lv_at hl 0 rfl) ?_
        refine lv_aload_n hx hb dXM_waitAt_71 rfl (lv_at hl 1 rfl) ?_
        refine mg_coming hx hb hown hts hK hP dXM_waitAt_72 ?_
        obtain ⟨h7, h⟩ := h
        obtain ⟨J6, eJ6⟩ : ∃ y, y = mj_up J 4 (Int32.toNatClampNeg x5) cm := ⟨_, rfl⟩
        replace h := h J6 eJ6
        refine ms_11 hx hb hK hD hP hS h7 dXM_waitAt_75 (fun H locs hP hS => ?_)
        rw [← eJ6] at hP
        refine lv_iconst (v := 0) hx hb dXM_waitAt_76 (by decide) ?_
        refine lv_istore (lv' := [(4, .int 0), (3, .int x5), (0, .ref h0), (1, .int v1), (2, .int v2)]) hx hb dXM_waitAt_77 hl (by decide) rfl (fun ls hl => ?_)
        obtain ⟨k, h⟩ := h
        exact sMwaitAt_79  C0  k I J6 cn cm so v1 x5 0 h H locs ls hP hS (lv_sub hl [2, 3, 1, 0] rfl)
      · replace h := h.2 c3
        exact W.vret hx hb hr (fun t ht hW => ⟨⟨(I, J, cn, cm, so), rfl, h, by rw [fxC, ht]; exact hP⟩, hS.F ht⟩) hS.2.2 dXM_waitAt_53 hlocks
    · replace h := h.2 c2
      refine lv_iload_n hx hb dXM_waitAt_14 rfl (lv_at hl 2 rfl) ?_
      refine lv_if_ne (tgt := 37) hx hb dXM_waitAt_15 (by decide) (fun c8 => ?_) (fun c8 => ?_)
      · replace h := h.1 c8
        refine lv_iconst (v := 1) hx hb dXM_waitAt_37 (by decide) ?_
        refine lv_goto (tgt := 42) hx hb dXM_waitAt_38 (by decide) ?_
        refine lv_istore_n (lv' := [(2, .int 1), (0, .ref h0), (1, .int v1), (3, .int v3)]) hx hb dXM_waitAt_42 rfl hl (by decide) rfl (fun ls hl => ?_)
        refine lv_iinc (v := v3 + 1) (lv' := [(3, .int (v3 + 1)), (2, .int 1), (0, .ref h0), (1, .int v1)]) hx hb dXM_waitAt_43 hl (k := 3) rfl rfl (by decide) rfl (fun ls hl => ?_)
        refine lv_goto (tgt := 4) hx hb dXM_waitAt_46 (by decide) ?_
        exact hK4 I J cn cm so v1 1 (v3 + 1) h H locs ls hP hS (lv_sub hl [2, 3, 1, 0] rfl)
      · replace h := h.2 c8
        refine lv_aload_n hx hb dXM_waitAt_18 rfl (lv_at hl 0 rfl) ?_
        refine mg_waitHash hx hb hown hts hK hP dXM_waitAt_19 ?_
        refine lv_bipush (v := 6) hx hb dXM_waitAt_22 (by decide) ?_
        refine lv_iload_n hx hb dXM_waitAt_24 rfl (lv_at hl 1 rfl) ?_
        refine lv_imul hx hb dXM_waitAt_25 ?_
        refine lv_iload_n hx hb dXM_waitAt_26 rfl (lv_at hl 3 rfl) ?_
        refine lv_iadd hx hb dXM_waitAt_27 ?_
        obtain ⟨h9, h⟩ := h
        refine ma_11 hx hb hK hP h9 dXM_waitAt_28 ?_
        refine lv_aload_n hx hb dXM_waitAt_29 rfl (lv_at hl 0 rfl) ?_
        refine mg_coming hx hb hown hts hK hP dXM_waitAt_30 ?_
        refine W.lcmp hx hb dXM_waitAt_33 ?_
        refine lv_if_ne (tgt := 41) hx hb dXM_waitAt_34 (by decide) (fun c10 => ?_) (fun c10 => ?_)
        · replace h := h.1 c10
          refine lv_iconst (v := 0) hx hb dXM_waitAt_41 (by decide) ?_
          refine lv_istore_n (lv' := [(2, .int 0), (0, .ref h0), (1, .int v1), (3, .int v3)]) hx hb dXM_waitAt_42 rfl hl (by decide) rfl (fun ls hl => ?_)
          refine lv_iinc (v := v3 + 1) (lv' := [(3, .int (v3 + 1)), (2, .int 0), (0, .ref h0), (1, .int v1)]) hx hb dXM_waitAt_43 hl (k := 3) rfl rfl (by decide) rfl (fun ls hl => ?_)
          refine lv_goto (tgt := 4) hx hb dXM_waitAt_46 (by decide) ?_
          exact hK4 I J cn cm so v1 0 (v3 + 1) h H locs ls hP hS (lv_sub hl [2, 3, 1, 0] rfl)
        · replace h := h.2 c10
          refine lv_iconst (v := 1) hx hb dXM_waitAt_37 (by decide) ?_
          refine lv_goto (tgt := 42) hx hb dXM_waitAt_38 (by decide) ?_
          refine lv_istore_n (lv' := [(2, .int 1), (0, .ref h0), (1, .int v1), (3, .int v3)]) hx hb dXM_waitAt_42 rfl hl (by decide) rfl (fun ls hl => ?_)
          refine lv_iinc (v := v3 + 1) (lv' := [(3, .int (v3 + 1)), (2, .int 1), (0, .ref h0), (1, .int v1)]) hx hb dXM_waitAt_43 hl (k := 3) rfl rfl (by decide) rfl (fun ls hl => ?_)
          refine lv_goto (tgt := 4) hx hb dXM_waitAt_46 (by decide) ?_
          exact hK4 I J cn cm so v1 1 (v3 + 1) h H locs ls hP hS (lv_sub hl [2, 3, 1, 0] rfl)
set_option maxRecDepth 100000 in
set_option maxHeartbeats 4000000 in
theorem sMwaitAt_in {p : Program} {l : Launch} {e : Env} {s : State} {m : MethodId} {args : Array Value} {below : List Frame} {meth : Method} {c : Code} {D : va_G} {A : Nat → Prop} {h0 : Nat} {ad : Nat → Nat} {cI cL : ClassId} {post : (Nat → Nat → Int32) → (Nat → Nat → Int64) → Int32 → Int64 → Int32 → Prop} (C0 : mCx p s m args meth c D A h0 ad cI cL cXM_waitAt 5 none) : ∀ (I : Nat → Nat → Int32) (J : Nat → Nat → Int64) (cn : Int32) (cm : Int64) (so : Int32) (a1 : Int32), wMwaitAt post I J cn cm so a1 → ∀ (H : Heap) (locs : List Loc) (ls : Array Slot), mW D h0 ad cI cL (I, J, cn, cm, so) H → va_S A s.heap H locs → lv_has ls 5 [(0, .ref h0), (1, .int a1)] → W p l e ({ frames := 1, cells := 0, slots := 0, locals := 24 } : Room) s m args below meth c H locs 0 0 (MQ below (va_Qv (fun (u : mS) => post u.1 u.2.1 u.2.2.1 u.2.2.2.1 u.2.2.2.2) (fxC (mW D h0 ad cI cL)) A) args s 0 0 A) (F0 m 0 ls []) := by
  obtain ⟨hx, hb, hr, hml, hown, hts, hlocks, hK, hN, hD⟩ := id C0
  intro I J cn cm so a1 h H locs ls hP hS hl
  replace h : (∃ k, wMwaitAt_4 post  k I J cn cm so a1 0 0) := h
  refine lv_iconst (v := 0) hx hb dXM_waitAt_0 (by decide) ?_
  refine lv_istore_n (lv' := [(2, .int 0), (0, .ref h0), (1, .int a1)]) hx hb dXM_waitAt_1 rfl hl (by decide) rfl (fun ls hl => ?_)
  refine lv_iconst (v := 0) hx hb dXM_waitAt_2 (by decide) ?_
  refine lv_istore_n (lv' := [(3, .int 0), (2, .int 0), (0, .ref h0), (1, .int a1)]) hx hb dXM_waitAt_3 rfl hl (by decide) rfl (fun ls hl => ?_)
  obtain ⟨k, h⟩ := h
  exact sMwaitAt_4  C0  k I J cn cm so a1 0 0 h H locs ls hP hS (lv_sub hl [2, 3, 1, 0] rfl)
set_option maxRecDepth 100000 in
set_option maxHeartbeats 4000000 in
theorem cMwaitAt {l : Launch} {D : va_G} {A : Nat → Prop} {h0 : Nat} {ad : Nat → Nat} {cI cL : ClassId} (hD : mDs A h0 ad cI cL) {post : (Nat → Nat → Int32) → (Nat → Nat → Int64) → Int32 → Int64 → Int32 → Prop} {I : Nat → Nat → Int32} {J : Nat → Nat → Int64} {cn : Int32} {cm : Int64} {so : Int32} {a1 : Int32} (h : wMwaitAt post I J cn cm so a1) : Met l yXM_waitAt (.code yXM_waitAt cXM_waitAt 5 none :: lg_tbl) ({ frames := 1, cells := 0, slots := 0, locals := 24 } : Room) (va_Pc [.ref h0, .int a1] (fxB (mW D h0 ad cI cL (I, J, cn, cm, so)) D vwCl (mTy cI cL))) (va_Qv (fun (u : mS) => post u.1 u.2.1 u.2.2.1 u.2.2.2.1 u.2.2.2.2) (fxC (mW D h0 ad cI cL)) A) 0 0 A := by
  refine fx_start (by decide +kernel) (Nat.le_of_ble_eq_true rfl) ?_
  intro p e s m below meth c ls hx hb hr hml hown hts hlocks hnm hB hl
  exact sMwaitAt_in ⟨hx, hb, hr, hml, hown, hts, hlocks, hB.2.1, hB.2.2, hD⟩ I J cn cm so a1 h _ _ ls hB.1 va_S.rf hl
