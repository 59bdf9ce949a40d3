def wMsortHeads (post : (Nat → Nat → Int32) → (Nat → Nat → Int64) → Int32 → Int64 → Int32 → Prop) (I : Nat → Nat → Int32) (J : Nat → Nat → Int64) (cn : Int32) (cm : Int64) (so : Int32) (a1 : Int32) : Prop := (wMheadSet (fun r1 I_1 J_1 cn_1 cm_1 so_1 => (wMsort (fun I_2 J_2 cn_2 cm_2 so_2 => (post I_2 J_2 cn_2 cm_2 so_2)) I_1 J_1 cn_1 cm_1 so_1 r1 0)) I J cn cm so a1)
set_option maxRecDepth 100000 in
set_option maxHeartbeats 4000000 in
theorem sMsortHeads_in {p : Program} {l : Launch} {e : Env} {s : State} {m : MethodId} {args : Array Value} {below : List Frame} {meth : Method} {c : Code} {D : va_G} {A : Nat → Prop} {h0 : Nat} {ad : Nat → Nat} {cI cL : ClassId} {post : (Nat → Nat → Int32) → (Nat → Nat → Int64) → Int32 → Int64 → Int32 → Prop} (C0 : mCx p s m args meth c D A h0 ad cI cL cXM_sortHeads 2 none) : ∀ (I : Nat → Nat → Int32) (J : Nat → Nat → Int64) (cn : Int32) (cm : Int64) (so : Int32) (a1 : Int32), wMsortHeads post I J cn cm so a1 → ∀ (H : Heap) (locs : List Loc) (ls : Array Slot), mW D h0 ad cI cL (I, J, cn, cm, so) H → va_S A s.heap H locs → lv_has ls 2 [(0, .ref h0), (1, .int a1)] → W p l e ({ frames := 2, cells := 0, slots := 0, locals := 48 } : Room) s m args below meth c H locs 0 0 (MQ below (va_Qv (fun (u : mS) => post u.1 u.2.1 u.2.2.1 u.2.2.2.1 u.2.2.2.2) (fxC (mW D h0 ad cI cL)) A) args s 0 0 A) (F0 m 0 ls []) := by
  obtain ⟨hx, hb, hr, hml, hown, hts, hlocks, hK, hN, hD⟩ := id C0
  intro I J cn cm so a1 h H locs ls hP hS hl
  replace h : (wMheadSet (fun r1 I_1 J_1 cn_1 cm_1 so_1 => (wMsort (fun I_2 J_2 cn_2 cm_2 so_2 => (post I_2 J_2 cn_2 cm_2 so_2)) I_1 J_1 cn_1 cm_1 so_1 r1 0)) I J cn cm so a1) := h
  refine lv_aload_n hx hb dXM_sortHeads_0 rfl (lv_at hl 0 rfl) ?_
  refine lv_aload_n hx hb dXM_sortHeads_1 rfl (lv_at hl 0 rfl) ?_
  refine lv_iload_n hx hb dXM_sortHeads_2 rfl (lv_at hl 1 rfl) ?_
  refine va_calll (va_runV (As := [.int a1]) (rest := [.ref h0]) ⟨hx, hb, hml, hown, hts⟩ (cMheadSet hD h) (fx_cwV 1 hts gw_M_157 hdXM_headSet ⟨Nat.le_of_ble_eq_true rfl, Nat.le_of_ble_eq_true rfl⟩) (fx_preV (m_recv hK hP) hP hK hN) rfl rfl hl.1 rfl (lv_room (Nat.le_of_ble_eq_true rfl)) dXM_sortHeads_3 ⟨Nat.le_of_ble_eq_true rfl, Nat.le_of_ble_eq_true rfl⟩) hS (fun _ _ q => q) (fun _ q => q) (fun r1 u t H locs ht hvm h hP hz hk hS => ?_)
  rw [fxC, ht] at hP
  obtain ⟨I_1, J_1, cn_1, cm_1, so_1⟩ := u
  dsimp only at h
  refine lv_iconst (v := 0) hx hb dXM_sortHeads_6 (by decide) ?_
  refine va_callv (va_runV (As := [.long r1, .int 0]) (rest := []) ⟨hx, hb, hml, hown, hts⟩ (cMsort hD h) (fx_cwV 2 hts gw_M_153 hdXM_sort ⟨Nat.le_of_ble_eq_true rfl, Nat.le_of_ble_eq_true rfl⟩) (fx_preV (m_recv hK hP) hP hK hN) rfl rfl hl.1 rfl (lv_room (Nat.le_of_ble_eq_true rfl)) dXM_sortHeads_7 ⟨Nat.le_of_ble_eq_true rfl, Nat.le_of_ble_eq_true rfl⟩) hS (fun _ _ q => q) (fun _ q => q) (fun u t H locs ht hvm h hP hz hk hS => ?_)
  rw [fxC, ht] at hP
  obtain ⟨I_2, J_2, cn_2, cm_2, so_2⟩ := u
  dsimp only at h
  exact W.vret hx hb hr (fun t ht hW => ⟨⟨(I_2, J_2, cn_2, cm_2, so_2), rfl, h, by rw [fxC, ht]; exact hP⟩, hS.F ht⟩) hS.2.2 dXM_sortHeads_10 hlocks
set_option maxRecDepth 100000 in
set_option maxHeartbeats 4000000 in
theorem cMsortHeads {l : Launch} {D : va_G} {A : Nat → Prop} {h0 : Nat} {ad : Nat → Nat} {cI cL : ClassId} (hD : mDs A h0 ad cI cL) {post : (Nat → Nat → Int32) → (Nat → Nat → Int64) → Int32 → Int64 → Int32 → Prop} {I : Nat → Nat → Int32} {J : Nat → Nat → Int64} {cn : Int32} {cm : Int64} {so : Int32} {a1 : Int32} (h : wMsortHeads post I J cn cm so a1) : Met l yXM_sortHeads (.code yXM_sortHeads cXM_sortHeads 2 none :: lg_tbl) ({ frames := 2, cells := 0, slots := 0, locals := 48 } : Room) (va_Pc [.ref h0, .int a1] (fxB (mW D h0 ad cI cL (I, J, cn, cm, so)) D vwCl (mTy cI cL))) (va_Qv (fun (u : mS) => post u.1 u.2.1 u.2.2.1 u.2.2.2.1 u.2.2.2.2) (fxC (mW D h0 ad cI cL)) A) 0 0 A := by
  refine fx_start (by decide +kernel) (Nat.le_of_ble_eq_true rfl) ?_
  intro p e s m below meth c ls hx hb hr hml hown hts hlocks hnm hB hl
  exact sMsortHeads_in ⟨hx, hb, hr, hml, hown, hts, hlocks, hB.2.1, hB.2.2, hD⟩ I J cn cm so a1 h _ _ ls hB.1 va_S.rf hl
noncomputable def wMwrite_80 (post : Int32 → (Nat → Nat → Int32) → (Nat → Nat → Int64) → Int32 → Int64 → Int32 → Prop) (n : Nat) : (Nat → Nat → Int32) → (Nat → Nat → Int64) → Int32 → Int64 → Int32 → Int32 → Int32 → Int32 → Prop := Nat.rec (motive := fun _ => (Nat → Nat → Int32) → (Nat → Nat → Int64) → Int32 → Int64 → Int32 → Int32 → Int32 → Int32 → Prop) (fun _ _ _ _ _ _ _ _ => False) (fun _ K80 I J cn cm so v1 v5 v6 => ((so ≤ v6 → (wMhashOfN (fun r16 I_16 J_16 cn_16 cm_16 so_16 => (wMcome (fun r17 I_17 J_17 cn_17 cm_17 so_17 => (post r17 I_17 J_17 cn_17 cm_17 so_17)) I_16 J_16 cn_16 r16 so_16 v1)) I J cn cm so )) ∧ (¬ so ≤ v6 → (vp_in v6 40 ∧ (vp_in (I 10 (Int32.toNatClampNeg v6)) 40 ∧ (vp_in (v6 - v5) 4 ∧ ∀ J20, J20 = mj_up J 7 (Int32.toNatClampNeg (v6 - v5)) (J 0 (Int32.toNatClampNeg (I 10 (Int32.toNatClampNeg v6)))) → (K80 I J20 cn cm so v1 v5 (v6 + 1)))))))) n
def wMwrite_32 (post : Int32 → (Nat → Nat → Int32) → (Nat → Nat → Int64) → Int32 → Int64 → Int32 → Prop) (I : Nat → Nat → Int32) (J : Nat → Nat → Int64) (cn : Int32) (cm : Int64) (so : Int32) (v1 : Int32) (v2 : Int32) (v3 : Int32) (v4 : Int32) (t0 : Int32) : Prop := (vp_in 0 5 ∧ ∀ I5, I5 = mi_up I 9 (Int32.toNatClampNeg 0) v1 → (vp_in 1 5 ∧ ∀ I7, I7 = mi_up I5 9 (Int32.toNatClampNeg 1) v2 → (vp_in 2 5 ∧ ∀ I9, I9 = mi_up I7 9 (Int32.toNatClampNeg 2) v3 → (vp_in 3 5 ∧ ∀ I11, I11 = mi_up I9 9 (Int32.toNatClampNeg 3) v4 → (vp_in 4 5 ∧ ∀ I13, I13 = mi_up I11 9 (Int32.toNatClampNeg 4) (so - t0) → (∃ k, wMwrite_80 post  k I13 J cn cm so v1 t0 t0))))))
def wMwrite (post : Int32 → (Nat → Nat → Int32) → (Nat → Nat → Int64) → Int32 → Int64 → Int32 → Prop) (I : Nat → Nat → Int32) (J : Nat → Nat → Int64) (cn : Int32) (cm : Int64) (so : Int32) (a1 : Int32) (a2 : Int32) (a3 : Int32) (a4 : Int32) : Prop := (wMisReplica (fun r1 I_1 J_1 cn_1 cm_1 so_1 => ((¬ r1 = 0 → (wMsortHeads (fun I_3 J_3 cn_3 cm_3 so_3 => ((so_3 ≤ 4 → (wMwrite_32 post  I_3 J_3 cn_3 cm_3 so_3 a1 a2 a3 a4 0)) ∧ (¬ so_3 ≤ 4 → (wMwrite_32 post  I_3 J_3 cn_3 cm_3 so_3 a1 a2 a3 a4 (so_3 - 4))))) I_1 J_1 cn_1 cm_1 so_1 a1)) ∧ (r1 = 0 → (post (-1) I_1 J_1 cn_1 cm_1 so_1)))) I J cn cm so a1)
set_option maxRecDepth 100000 in
set_option maxHeartbeats 4000000 in
theorem sMwrite_80 {p : Program} {l : Launch} {e : Env} {s : State} {m : MethodId} {args : Array Value} {below : List Frame} {meth : Method} {c : Code} {D : va_G} {A : Nat → Prop} {h0 : Nat} {ad : Nat → Nat} {cI cL : ClassId} {post : Int32 → (Nat → Nat → Int32) → (Nat → Nat → Int64) → Int32 → Int64 → Int32 → Prop} (C0 : mCx p s m args meth c D A h0 ad cI cL cXM_write 7 (some .int)) : ∀ (n : Nat) (I : Nat → Nat → Int32) (J : Nat → Nat → Int64) (cn : Int32) (cm : Int64) (so : Int32) (v1 : Int32) (v5 : Int32) (v6 : Int32), wMwrite_80 post  n I J cn cm so v1 v5 v6 → ∀ (H : Heap) (locs : List Loc) (ls : Array Slot), mW D h0 ad cI cL (I, J, cn, cm, so) H → va_S A s.heap H locs → lv_has ls 7 [(0, .ref h0), (1, .int v1), (5, .int v5), (6, .int v6)] → W p l e ({ frames := 5, cells := 0, slots := 0, locals := 121 } : Room) s m args below meth c H locs 0 0 (MQ below (va_Qi (fun (r : Int32) (u : mS) => post r u.1 u.2.1 u.2.2.1 u.2.2.2.1 u.2.2.2.2) (fxC (mW D h0 ad cI cL)) A) args s 0 0 A) (F0 m 80 ls []) := by
  obtain ⟨hx, hb, hr, hml, hown, hts, hlocks, hK, hN, hD⟩ := id C0
  intro n
  induction n with
  | zero => exact fun _ _ _ _ _ _ _ _ h => h.elim
  | succ n hK80 =>
    intro I J cn cm so v1 v5 v6 h H locs ls hP hS hl
    replace h : ((so ≤ v6 → (wMhashOfN (fun r16 I_16 J_16 cn_16 cm_16 so_16 => (wMcome (fun r17 I_17 J_17 cn_17 cm_17 so_17 => (post r17 I_17 J_17 cn_17 cm_17 so_17)) I_16 J_16 cn_16 r16 so_16 v1)) I J cn cm so )) ∧ (¬ so ≤ v6 → (vp_in v6 40 ∧ (vp_in (I 10 (Int32.toNatClampNeg v6)) 40 ∧ (vp_in (v6 - v5) 4 ∧ ∀ J20, J20 = mj_up J 7 (Int32.toNatClampNeg (v6 - v5)) (J 0 (Int32.toNatClampNeg (I 10 (Int32.toNatClampNeg v6)))) → ((wMwrite_80 post  n) I J20 cn cm so v1 v5 (v6 + 1))))))) := h
    refine lv_iload hx hb dXM_write_80 (lv_at hl 3 rfl) ?_
    refine lv_aload_n hx hb dXM_write_82 rfl (lv_at hl 0 rfl) ?_
    refine mg_sorted hx hb hown hts hK hP dXM_write_83 ?_
    refine lv_icmp_ge (tgt := 117) hx hb dXM_write_86 (by decide) (fun c15 => ?_) (fun c15 => ?_)
    · replace h := h.1 c15
      refine lv_aload_n hx hb dXM_write_117 rfl (lv_at hl 0 rfl) ?_
      refine lv_aload_n hx hb dXM_write_118 rfl (lv_at hl 0 rfl) ?_
      refine mg_numbers hx hb hown hts hK hP dXM_write_119 ?_
      refine lv_aload_n hx hb dXM_write_122 rfl (lv_at hl 0 rfl) ?_
      refine mg_comingLink hx hb hown hts hK hP dXM_write_123 ?_
      refine va_calll (va_runS (As := [.ref (ad 16), .ref (ad 17)]) (rest := [.ref h0]) ⟨hx, hb, hml, hown, hts⟩ (cMhashOfN hD h) (fx_cwS 2 hts gw_M_141 hdXM_hashOf ⟨Nat.le_of_ble_eq_true rfl, Nat.le_of_ble_eq_true rfl⟩) (fx_preS hP hK hN) rfl rfl hl.1 rfl (lv_room (Nat.le_of_ble_eq_true rfl)) dXM_write_126 ⟨Nat.le_of_ble_eq_true rfl, Nat.le_of_ble_eq_true rfl⟩) hS (fun _ _ q => q) (fun _ q => q) (fun r16 u t H locs ht hvm h hP hz hk hS => ?_)
      rw [fxC, ht] at hP
      obtain ⟨I_16, J_16, cn_16, cm_16, so_16⟩ := u
      dsimp only at h
      refine mp_coming hx hb hown hts hK hD hP hS dXM_write_129 (fun H locs hP hS => ?_)
      refine lv_aload_n hx hb dXM_write_132 rfl (lv_at hl 0 rfl) ?_
      refine lv_iload_n hx hb dXM_write_133 rfl (lv_at hl 1 rfl) ?_
      refine va_calli (va_runV (As := [.int v1]) (rest := []) ⟨hx, hb, hml, hown, hts⟩ (cMcome hD h) (fx_cwV 1 hts gw_M_145 hdXM_come ⟨Nat.le_of_ble_eq_true rfl, Nat.le_of_ble_eq_true rfl⟩) (fx_preV (m_recv hK hP) hP hK hN) rfl rfl hl.1 rfl (lv_room (Nat.le_of_ble_eq_true rfl)) dXM_write_134 ⟨Nat.le_of_ble_eq_true rfl, Nat.le_of_ble_eq_true rfl⟩) hS (fun _ _ q => q) (fun _ q => q) (fun r17 u t H locs ht hvm h hP hz hk hS => ?_)
      rw [fxC, ht] at hP
      obtain ⟨I_17, J_17, cn_17, cm_17, so_17⟩ := u
      dsimp only at h
      exact W.iret hx hb hr (fun t ht hW => ⟨⟨_, (I_17, J_17, cn_17, cm_17, so_17), rfl, h, by rw [fxC, ht]; exact hP⟩, hS.F ht⟩) hS.2.2 dXM_write_137 hlocks
    · replace h := h.2 c15
      refine lv_aload_n hx hb dXM_write_89 rfl (lv_at hl 0 rfl) ?_
      refine mg_comingLink hx hb hown hts hK hP dXM_write_90 ?_
      refine lv_iload hx hb dXM_write_93 (lv_at hl 3 rfl) ?_
      refine lv_iload hx hb dXM_write_95 (lv_at hl 2 rfl) ?_
      refine lv_isub hx hb dXM_write_97 ?_
      refine lv_aload_n hx hb dXM_write_98 rfl (lv_at hl 0 rfl) ?_
      refine mg_hash hx hb hown hts hK hP dXM_write_99 ?_
      refine lv_aload_n hx hb dXM_write_102 rfl (lv_at hl 0 rfl) ?_
      refine mg_order hx hb hown hts hK hP dXM_write_103 ?_
      refine lv_iload hx hb dXM_write_106 (lv_at hl 3 rfl) ?_
      obtain ⟨h18, h⟩ := h
      refine ma_18 hx hb hK hP h18 dXM_write_108 ?_
      obtain ⟨h19, h⟩ := h
      refine ma_0 hx hb hK hP h19 dXM_write_109 ?_
      obtain ⟨h21, h⟩ := h
      obtain ⟨J20, eJ20⟩ : ∃ y, y = mj_up J 7 (Int32.toNatClampNeg (v6 - v5)) (J 0 (Int32.toNatClampNeg (I 10 (Int32.toNatClampNeg v6)))) := ⟨_, rfl⟩
      replace h := h J20 eJ20
      refine ms_17 hx hb hK hD hP hS h21 dXM_write_110 (fun H locs hP hS => ?_)
      rw [← eJ20] at hP
      refine lv_iinc (v := v6 + 1) (lv' := [(6, .int (v6 + 1)), (0, .ref h0), (1, .int v1), (5, .int v5)]) hx hb dXM_write_111 hl (k := 3) rfl rfl (by decide) rfl (fun ls hl => ?_)
      refine lv_goto (tgt := 80) hx hb dXM_write_114 (by decide) ?_
      exact hK80 I J20 cn cm so v1 v5 (v6 + 1) h H locs ls hP hS (lv_sub hl [1, 2, 3, 0] rfl)
set_option maxRecDepth 100000 in
set_option maxHeartbeats 4000000 in
theorem sMwrite_32 {p : Program} {l : Launch} {e : Env} {s : State} {m : MethodId} {args : Array Value} {below : List Frame} {meth : Method} {c : Code} {D : va_G} {A : Nat → Prop} {h0 : Nat} {ad : Nat → Nat} {cI cL : ClassId} {post : Int32 → (Nat → Nat → Int32) → (Nat → Nat → Int64) → Int32 → Int64 → Int32 → Prop} (C0 : mCx p s m args meth c D A h0 ad cI cL cXM_write 7 (some .int)) : ∀ (I : Nat → Nat → Int32) (J : Nat → Nat → Int64) (cn : Int32) (cm : Int64) (so : Int32) (v1 : Int32) (v2 : Int32) (v3 : Int32) (v4 : Int32) (t0 : Int32), wMwrite_32 post  I J cn cm so v1 v2 v3 v4 t0 → ∀ (H : Heap) (locs : List Loc) (ls : Array Slot), mW D h0 ad cI cL (I, J, cn, cm, so) H → va_S A s.heap H locs → lv_has ls 7 [(0, .ref h0), (1, .int v1), (2, .int v2), (3, .int v3), (4, .int v4)] → W p l e ({ frames := 5, cells := 0, slots := 0, locals := 121 } : Room) s m args below meth c H locs 0 0 (MQ below (va_Qi (fun (r : Int32) (u : mS) => post r u.1 u.2.1 u.2.2.1 u.2.2.2.1 u.2.2.2.2) (fxC (mW D h0 ad cI cL)) A) args s 0 0 A) (F0 m 32 ls [.int t0]) := by
  obtain ⟨hx, hb, hr, hml, hown, hts, hlocks, hK, hN, hD⟩ := id C0
  intro I J cn cm so v1 v2 v3 v4 t0 h H locs ls hP hS hl
  replace h : (vp_in 0 5 ∧ ∀ I5, I5 = mi_up I 9 (Int32.toNatClampNeg 0) v1 → (vp_in 1 5 ∧ ∀ I7, I7 = mi_up I5 9 (Int32.toNatClampNeg 1) v2 → (vp_in 2 5 ∧ ∀ I9, I9 = mi_up I7 9 (Int32.toNatClampNeg 2) v3 → (vp_in 3 5 ∧ ∀ I11, I11 = mi_up I9 9 (Int32.toNatClampNeg 3) v4 → (vp_in 4 5 ∧ ∀ I13, I13 = mi_up I11 9 (Int32.toNatClampNeg 4) (so - t0) → (∃ k, wMwrite_80 post  k I13 J cn cm so v1 t0 t0)))))) := h
  refine lv_istore (lv' := [(5, .int t0), (0, .ref h0), (1, .int v1), (2, .int v2), (3, .int v3), (4, .int v4)]) hx hb dXM_write_32 hl (by decide) rfl (fun ls hl => ?_)
  refine lv_aload_n hx hb dXM_write_34 rfl (lv_at hl 1 rfl) ?_
  refine mg_numbers hx hb hown hts hK hP dXM_write_35 ?_
  refine lv_iconst (v := 0) hx hb dXM_write_38 (by decide) ?_
  refine lv_iload_n hx hb dXM_write_39 rfl (lv_at hl 2 rfl) ?_
  obtain ⟨h6, h⟩ := h
  obtain ⟨I5, eI5⟩ : ∃ y, y = mi_up I 9 (Int32.toNatClampNeg 0) v1 := ⟨_, rfl⟩
  replace h := h I5 eI5
  refine ms_16 hx hb hK hD hP hS h6 dXM_write_40 (fun H locs hP hS => ?_)
  rw [← eI5] at hP
  refine lv_aload_n hx hb dXM_write_41 rfl (lv_at hl 1 rfl) ?_
  refine mg_numbers hx hb hown hts hK hP dXM_write_42 ?_
  refine lv_iconst (v := 1) hx hb dXM_write_45 (by decide) ?_
  refine lv_iload_n hx hb dXM_write_46 rfl (lv_at hl 3 rfl) ?_
  obtain ⟨h8, h⟩ := h
  obtain ⟨I7, eI7⟩ : ∃ y, y = mi_up I5 9 (Int32.toNatClampNeg 1) v2 := ⟨_, rfl⟩
  replace h := h I7 eI7
  refine ms_16 hx hb hK hD hP hS h8 dXM_write_47 (fun H locs hP hS => ?_)
  rw [← eI7] at hP
  refine lv_aload_n hx hb dXM_write_48 rfl (lv_at hl 1 rfl) ?_
  refine mg_numbers hx hb hown hts hK hP dXM_write_49 ?_
  refine lv_iconst (v := 2) hx hb dXM_write_52 (by decide) ?_
  refine lv_iload_n hx hb dXM_write_53 rfl (lv_at hl 4 rfl) ?_
  obtain ⟨h10, h⟩ := h
  obtain ⟨I9, eI9⟩ : ∃ y, y = mi_up I7 9 (Int32.toNatClampNeg 2) v3 := ⟨_, rfl⟩
  replace h := h I9 eI9
  refine ms_16 hx hb hK hD hP hS h10 dXM_write_54 (fun H locs hP hS => ?_)
  rw [← eI9] at hP
  refine lv_aload_n hx hb dXM_write_55 rfl (lv_at hl 1 rfl) ?_
  refine mg_numbers hx hb hown hts hK hP dXM_write_56 ?_
  refine lv_iconst (v := 3) hx hb dXM_write_59 (by decide) ?_
  refine lv_iload hx hb dXM_write_60 (lv_at hl 5 rfl) ?_
  obtain ⟨h12, h⟩ := h
  obtain ⟨I11, eI11⟩ : ∃ y, y = mi_up I9 9 (Int32.toNatClampNeg 3) v4 := ⟨_, rfl⟩
  replace h := h I11 eI11
  refine ms_16 hx hb hK hD hP hS h12 dXM_write_62 (fun H locs hP hS => ?_)
  rw [← eI11] at hP
  refine lv_aload_n hx hb dXM_write_63 rfl (lv_at hl 1 rfl) ?_
  refine mg_numbers hx hb hown hts hK hP dXM_write_64 ?_
  refine lv_iconst (v := 4) hx hb dXM_write_67 (by decide) ?_
  refine lv_aload_n hx hb dXM_write_68 rfl (lv_at hl 1 rfl) ?_
  refine mg_sorted hx hb hown hts hK hP dXM_write_69 ?_
  refine lv_iload hx hb dXM_write_72 (lv_at hl 0 rfl) ?_
  refine lv_isub hx hb dXM_write_74 ?_
  obtain ⟨h14, h⟩ := h
  obtain ⟨I13, eI13⟩ : ∃ y, y = mi_up I11 9 (Int32.toNatClampNeg 4) (so - t0) := ⟨_, rfl⟩
  replace h := h I13 eI13
  refine ms_16 hx hb hK hD hP hS h14 dXM_write_75 (fun H locs hP hS => ?_)
  rw [← eI13] at hP
  refine lv_iload hx hb dXM_write_76 (lv_at hl 0 rfl) ?_
  refine lv_istore (lv' := [(6, .int t0), (5, .int t0), (0, .ref h0), (1, .int v1), (2, .int v2), (3, .int v3), (4, .int v4)]) hx hb dXM_write_78 hl (by decide) rfl (fun ls hl => ?_)
  obtain ⟨k, h⟩ := h
  exact sMwrite_80  C0  k I13 J cn cm so v1 t0 t0 h H locs ls hP hS (lv_sub hl [2, 3, 1, 0] rfl)
set_option maxRecDepth 100000 in
set_option maxHeartbeats 4000000 in
theorem sMwrite_in {p : Program} {l : Launch} {e : Env} {s : State} {m : MethodId} {args : Array Value} {below : List Frame} {meth : Method} {c : Code} {D : va_G} {A : Nat → Prop} {h0 : Nat} {ad : Nat → Nat} {cI cL : ClassId} {post : Int32 → (Nat → Nat → Int32) → (Nat → Nat → Int64) → Int32 → Int64 → Int32 → Prop} (C0 : mCx p s m args meth c D A h0 ad cI cL cXM_write 7 (some .int)) : ∀ (I : Nat → Nat → Int32) (J : Nat → Nat → Int64) (cn : Int32) (cm : Int64) (so : Int32) (a1 : Int32) (a2 : Int32) (a3 : Int32) (a4 : Int32), wMwrite post I J cn cm so a1 a2 a3 a4 → ∀ (H : Heap) (locs : List Loc) (ls : Array Slot), mW D h0 ad cI cL (I, J, cn, cm, so) H → va_S A s.heap H locs → lv_has ls 7 [(0, .ref h0), (1, .int a1), (2, .int a2), (3, .int a3), (4, .int a4)] → W p l e ({ frames := 5, cells := 0, slots := 0, locals := 121 } : Room) s m args below meth c H locs 0 0 (MQ below (va_Qi (fun (r : Int32) (u : mS) => post r u.1 u.2.1 u.2.2.1 u.2.2.2.1 u.2.2.2.2) (fxC (mW D h0 ad cI cL)) A) args s 0 0 A) (F0 m 0 ls []) := by
  obtain ⟨hx, hb, hr, hml, hown, hts, hlocks, hK, hN, hD⟩ := id C0
  intro I J cn cm so a1 a2 a3 a4 h H locs ls hP hS hl
  replace h : (wMisReplica (fun r1 I_1 J_1 cn_1 cm_1 so_1 => ((¬ r1 = 0 → (wMsortHeads (fun I_3 J_3 cn_3 cm_3 so_3 => ((so_3 ≤ 4 → (wMwrite_32 post  I_3 J_3 cn_3 cm_3 so_3 a1 a2 a3 a4 0)) ∧ (¬ so_3 ≤ 4 → (wMwrite_32 post  I_3 J_3 cn_3 cm_3 so_3 a1 a2 a3 a4 (so_3 - 4))))) I_1 J_1 cn_1 cm_1 so_1 a1)) ∧ (r1 = 0 → (post (-1) I_1 J_1 cn_1 cm_1 so_1)))) I J cn cm so a1) := h
  refine lv_iload_n hx hb dXM_write_0 rfl (lv_at hl 1 rfl) ?_
  refine va_calli (va_runS (As := [.int a1]) (rest := []) ⟨hx, hb, hml, hown, hts⟩ (cMisReplica hD h) (fx_cwS 1 hts gw_M_132 hdXM_isReplica ⟨Nat.le_of_ble_eq_true rfl, Nat.le_of_ble_eq_true rfl⟩) (fx_preS hP hK hN) rfl rfl hl.1 rfl (lv_room (Nat.le_of_ble_eq_true rfl)) dXM_write_1 ⟨Nat.le_of_ble_eq_true rfl, Nat.le_of_ble_eq_true rfl⟩) hS (fun _ _ q => q) (fun _ q => q) (fun r1 u t H locs ht hvm h hP hz hk hS => ?_)
  rw [fxC, ht] at hP
  obtain ⟨I_1, J_1, cn_1, cm_1, so_1⟩ := u
  dsimp only at h
  refine lv_if_ne (tgt := 9) hx hb dXM_write_4 (by decide) (fun c2 => ?_) (fun c2 => ?_)
  · replace h := h.1 c2
    refine lv_aload_n hx hb dXM_write_9 rfl (lv_at hl 0 rfl) ?_
    refine lv_iload_n hx hb dXM_write_10 rfl (lv_at hl 1 rfl) ?_
    refine va_callv (va_runV (As := [.int a1]) (rest := []) ⟨hx, hb, hml, hown, hts⟩ (cMsortHeads hD h) (fx_cwV 1 hts gw_M_135 hdXM_sortHeads ⟨Nat.le_of_ble_eq_true rfl, Nat.le_of_ble_eq_true rfl⟩) (fx_preV (m_recv hK hP) hP hK hN) rfl rfl hl.1 rfl (lv_room (Nat.le_of_ble_eq_true rfl)) dXM_write_11 ⟨Nat.le_of_ble_eq_true rfl, Nat.le_of_ble_eq_true rfl⟩) hS (fun _ _ q => q) (fun _ q => q) (fun u t H locs ht hvm h hP hz hk hS => ?_)
    rw [fxC, ht] at hP
    obtain ⟨I_3, J_3, cn_3, cm_3, so_3⟩ := u
    dsimp only at h
    refine lv_aload_n hx hb dXM_write_14 rfl (lv_at hl 0 rfl) ?_
    refine mg_sorted hx hb hown hts hK hP dXM_write_15 ?_
    refine lv_iconst (v := 4) hx hb dXM_write_18 (by decide) ?_
    refine lv_icmp_le (tgt := 31) hx hb dXM_write_19 (by decide) (fun c4 => ?_) (fun c4 => ?_)
    · replace h := h.1 c4
      refine lv_iconst (v := 0) hx hb dXM_write_31 (by decide) ?_
      exact sMwrite_32  C0  I_3 J_3 cn_3 cm_3 so_3 a1 a2 a3 a4 0 h H locs ls hP hS (lv_sub hl [0, 1, 2, 3, 4] rfl)
    · replace h := h.2 c4
      refine lv_aload_n hx hb dXM_write_22 rfl (lv_at hl 0 rfl) ?_
      refine mg_sorted hx hb hown hts hK hP dXM_write_23 ?_
      refine lv_iconst (v := 4) hx hb dXM_write_26 (by decide) ?_
      refine lv_isub hx hb dXM_write_27 ?_
      refine lv_goto (tgt := 32) hx hb dXM_write_28 (by decide) ?_
      exact sMwrite_32  C0  I_3 J_3 cn_3 cm_3 so_3 a1 a2 a3 a4 (so_3 - 4) h H locs ls hP hS (lv_sub hl [0, 1, 2, 3, 4] rfl)
  · replace h := h.2 c2
    refine lv_iconst (v := (-1)) hx hb dXM_write_7 (by decide) ?_
    exact W.iret hx hb hr (fun t ht hW => ⟨⟨_, (I_1, J_1, cn_1, cm_1, so_1), rfl, h, by rw [fxC, ht]; exact hP⟩, hS.F ht⟩) hS.2.2 dXM_write_8 hlocks
set_option maxRecDepth 100000 in
set_option maxHeartbeats 4000000 in
theorem cMwrite {l : Launch} {D : va_G} {A : Nat → Prop} {h0 : Nat} {ad : Nat → Nat} {cI cL : ClassId} (hD : mDs A h0 ad cI cL) {post : Int32 → (Nat → Nat → Int32) → (Nat → Nat → Int64) → Int32 → Int64 → Int32 → Prop} {I : Nat → Nat → Int32} {J : Nat → Nat → Int64} {cn : Int32} {cm : Int64} {so : Int32} {a1 : Int32} {a2 : Int32} {a3 : Int32} {a4 : Int32} (h : wMwrite post I J cn cm so a1 a2 a3 a4) : Met l yXM_write (.code yXM_write cXM_write 7 (some .int) :: lg_tbl) ({ frames := 5, cells := 0, slots := 0, locals := 121 } : Room) (va_Pc [.ref h0, .int a1, .int a2, .int a3, .int a4] (fxB (mW D h0 ad cI cL (I, J, cn, cm, so)) D vwCl (mTy cI cL))) (va_Qi (fun (r : Int32) (u : mS) => post r u.1 u.2.1 u.2.2.1 u.2.2.2.1 u.2.2.2.2) (fxC (mW D h0 ad cI cL)) A) 0 0 A := by
  refine fx_start (by decide +kernel) (Nat.le_of_ble_eq_true rfl) ?_
  intro p e s m below meth c ls hx hb hr hml hown hts hlocks hnm hB hl
  exact sMwrite_in ⟨hx, hb, hr, hml, hown, hts, hlocks, hB.2.1, hB.2.2, hD⟩ I J cn cm so a1 a2 a3 a4 h _ _ ls hB.1 va_S.rf hl
def wMdraft (post : (Nat → Nat → Int32) → (Nat → Nat → Int64) → Int32 → Int64 → Int32 → Prop) (I : Nat → Nat → Int32) (J : Nat → Nat → Int64) (cn : Int32) (cm : Int64) (so : Int32) (a1 : Int32) (a2 : Int32) (a3 : Int32) (a4 : Int32) : Prop := (vp_in 0 5 ∧ ∀ I1, I1 = mi_up I 8 (Int32.toNatClampNeg 0) a1 → (vp_in 1 5 ∧ ∀ I3, I3 = mi_up I1 8 (Int32.toNatClampNeg 1) a2 → (vp_in 2 5 ∧ ∀ I5, I5 = mi_up I3 8 (Int32.toNatClampNeg 2) a3 → (vp_in 3 5 ∧ ∀ I7, I7 = mi_up I5 8 (Int32.toNatClampNeg 3) a4 → (vp_in 4 5 ∧ ∀ I9, I9 = mi_up I7 8 (Int32.toNatClampNeg 4) 0 → (post I9 J cn cm so))))))
set_option maxRecDepth 100000 in
set_option maxHeartbeats 4000000 in
theorem sMdraft_in {p : Program} {l : Launch} {e : Env} {s : State} {m : MethodId} {args : Array Value} {below : List Frame} {meth : Method} {c : Code} {D : va_G} {A : Nat → Prop} {h0 : Nat} {ad : Nat → Nat} {cI cL : ClassId} {post : (Nat → Nat → Int32) → (Nat → Nat → Int64) → Int32 → Int64 → Int32 → Prop} (C0 : mCx p s m args meth c D A h0 ad cI cL cXM_draft 5 none) : ∀ (I : Nat → Nat → Int32) (J : Nat → Nat → Int64) (cn : Int32) (cm : Int64) (so : Int32) (a1 : Int32) (a2 : Int32) (a3 : Int32) (a4 : Int32), wMdraft post I J cn cm so a1 a2 a3 a4 → ∀ (H : Heap) (locs : List Loc) (ls : Array Slot), mW D h0 ad cI cL (I, J, cn, cm, so) H → va_S A s.heap H locs → lv_has ls 5 [(0, .ref h0), (1, .int a1), (2, .int a2), (3, .int a3), (4, .int a4)] → W p l e ({ frames := 0, cells := 0, slots := 0, locals := 0 } : Room) s m args below meth c H locs 0 0 (MQ below (va_Qv (fun (u : mS) => post u.1 u.2.1 u.2.2.1 u.2.2.2.1 u.2.2.2.2) (fxC (mW D h0 ad cI cL)) A) args s 0 0 A) (F0 m 0 ls []) := by
  obtain ⟨hx, hb, hr, hml, hown, hts, hlocks, hK, hN, hD⟩ := id C0
  intro I J cn cm so a1 a2 a3 a4 h H locs ls hP hS hl
  replace h : (vp_in 0 5 ∧ ∀ I1, I1 = mi_up I 8 (Int32.toNatClampNeg 0) a1 → (vp_in 1 5 ∧ ∀ I3, I3 = mi_up I1 8 (Int32.toNatClampNeg 1) a2 → (vp_in 2 5 ∧ ∀ I5, I5 = mi_up I3 8 (Int32.toNatClampNeg 2) a3 → (vp_in 3 5 ∧ ∀ I7, I7 = mi_up I5 8 (Int32.toNatClampNeg 3) a4 → (vp_in 4 5 ∧ ∀ I9, I9 = mi_up I7 8 (Int32.toNatClampNeg 4) 0 → (post I9 J cn cm so)))))) := h
  refine lv_aload_n hx hb dXM_draft_0 rfl (lv_at hl 0 rfl) ?_
  refine mg_draftNumbers hx hb hown hts hK hP dXM_draft_1 ?_
  refine lv_iconst (v := 0) hx hb dXM_draft_4 (by decide) ?_
  refine lv_iload_n hx hb dXM_draft_5 rfl (lv_at hl 1 rfl) ?_
  obtain ⟨h2, h⟩ := h
  obtain ⟨I1, eI1⟩ : ∃ y, y = mi_up I 8 (Int32.toNatClampNeg 0) a1 := ⟨_, rfl⟩
  replace h := h I1 eI1
  refine ms_14 hx hb hK hD hP hS h2 dXM_draft_6 (fun H locs hP hS => ?_)
  rw [← eI1] at hP
  refine lv_aload_n hx hb dXM_draft_7 rfl (lv_at hl 0 rfl) ?_
  refine mg_draftNumbers hx hb hown hts hK hP dXM_draft_8 ?_
  refine lv_iconst (v := 1) hx hb dXM_draft_11 (by decide) ?_
  refine lv_iload_n hx hb dXM_draft_12 rfl (lv_at hl 2 rfl) ?_
  obtain ⟨h4, h⟩ := h
  obtain ⟨I3, eI3⟩ : ∃ y, y = mi_up I1 8 (Int32.toNatClampNeg 1) a2 := ⟨_, rfl⟩
  replace h := h I3 eI3
  refine ms_14 hx hb hK hD hP hS h4 dXM_draft_13 (fun H locs hP hS => ?_)
  rw [← eI3] at hP
  refine lv_aload_n hx hb dXM_draft_14 rfl (lv_at hl 0 rfl) ?_
  refine mg_draftNumbers hx hb hown hts hK hP dXM_draft_15 ?_
  refine lv_iconst (v := 2) hx hb dXM_draft_18 (by decide) ?_
  refine lv_iload_n hx hb dXM_draft_19 rfl (lv_at hl 3 rfl) ?_
  obtain ⟨h6, h⟩ := h
  obtain ⟨I5, eI5⟩ : ∃ y, y = mi_up I3 8 (Int32.toNatClampNeg 2) a3 := ⟨_, rfl⟩
  replace h := h I5 eI5
  refine ms_14 hx hb hK hD hP hS h6 dXM_draft_20 (fun H locs hP hS => ?_)
  rw [← eI5] at hP
  refine lv_aload_n hx hb dXM_draft_21 rfl (lv_at hl 0 rfl) ?_
  refine mg_draftNumbers hx hb hown hts hK hP dXM_draft_22 ?_
  refine lv_iconst (v := 3) hx hb dXM_draft_25 (by decide) ?_
  refine lv_iload hx hb dXM_draft_26 (lv_at hl 4 rfl) ?_
  obtain ⟨h8, h⟩ := h
  obtain ⟨I7, eI7⟩ : ∃ y, y = mi_up I5 8 (Int32.toNatClampNeg 3) a4 := ⟨_, rfl⟩
  replace h := h I7 eI7
  refine ms_14 hx hb hK hD hP hS h8 dXM_draft_28 (fun H locs hP hS => ?_)
  rw [← eI7] at hP
  refine lv_aload_n hx hb dXM_draft_29 rfl (lv_at hl 0 rfl) ?_
  refine mg_draftNumbers hx hb hown hts hK hP dXM_draft_30 ?_
  refine lv_iconst (v := 4) hx hb dXM_draft_33 (by decide) ?_
  refine lv_iconst (v := 0) hx hb dXM_draft_34 (by decide) ?_
  obtain ⟨h10, h⟩ := h
  obtain ⟨I9, eI9⟩ : ∃ y, y = mi_up I7 8 (Int32.toNatClampNeg 4) 0 := ⟨_, rfl⟩
  replace h := h I9 eI9
  refine ms_14 hx hb hK hD hP hS h10 dXM_draft_35 (fun H locs hP hS => ?_)
  rw [← eI9] at hP
  exact W.vret hx hb hr (fun t ht hW => ⟨⟨(I9, J, cn, cm, so), rfl, h, by rw [fxC, ht]; exact hP⟩, hS.F ht⟩) hS.2.2 dXM_draft_36 hlocks
set_option maxRecDepth 100000 in
set_option maxHeartbeats 4000000 in
theorem cMdraft {l : Launch} {D : va_G} {A : Nat → Prop} {h0 : Nat} {ad : Nat → Nat} {cI cL : ClassId} (hD : mDs A h0 ad cI cL) {post : (Nat → Nat → Int32) → (Nat → Nat → Int64) → Int32 → Int64 → Int32 → Prop} {I : Nat → Nat → Int32} {J : Nat → Nat → Int64} {cn : Int32} {cm : Int64} {so : Int32} {a1 : Int32} {a2 : Int32} {a3 : Int32} {a4 : Int32} (h : wMdraft post I J cn cm so a1 a2 a3 a4) : Met l yXM_draft (.code yXM_draft cXM_draft 5 none :: lg_tbl) ({ frames := 0, cells := 0, slots := 0, locals := 0 } : Room) (va_Pc [.ref h0, .int a1, .int a2, .int a3, .int a4] (fxB (mW D h0 ad cI cL (I, J, cn, cm, so)) D vwCl (mTy cI cL))) (va_Qv (fun (u : mS) => post u.1 u.2.1 u.2.2.1 u.2.2.2.1 u.2.2.2.2) (fxC (mW D h0 ad cI cL)) A) 0 0 A := by
  refine fx_start (by decide +kernel) (Nat.le_of_ble_eq_true rfl) ?_
  intro p e s m below meth c ls hx hb hr hml hown hts hlocks hnm hB hl
  exact sMdraft_in ⟨hx, hb, hr, hml, hown, hts, hlocks, hB.2.1, hB.2.2, hD⟩ I J cn cm so a1 a2 a3 a4 h _ _ ls hB.1 va_S.rf hl
def wMlink (post : Int32 → (Nat → Nat → Int32) → (Nat → Nat → Int64) → Int32 → Int64 → Int32 → Prop) (I : Nat → Nat → Int32) (J : Nat → Nat → Int64) (cn : Int32) (cm : Int64) (so : Int32) (a1 : Int64) : Prop := (vp_in 4 5 ∧ ((¬ (I 8 (Int32.toNatClampNeg 4)) = 4 → (vp_in 4 5 ∧ (vp_in (I 8 (Int32.toNatClampNeg 4)) 4 ∧ ∀ J4, J4 = mj_up J 6 (Int32.toNatClampNeg (I 8 (Int32.toNatClampNeg 4))) a1 → (vp_in 4 5 ∧ (vp_in 4 5 ∧ ∀ I7, I7 = mi_up I 8 (Int32.toNatClampNeg 4) ((I 8 (Int32.toNatClampNeg 4)) + 1) → (post 1 I7 J4 cn cm so)))))) ∧ ((I 8 (Int32.toNatClampNeg 4)) = 4 → (post 0 I J cn cm so))))
set_option maxRecDepth 100000 in
set_option maxHeartbeats 4000000 in
theorem sMlink_in {p : Program} {l : Launch} {e : Env} {s : State} {m : MethodId} {args : Array Value} {below : List Frame} {meth : Method} {c : Code} {D : va_G} {A : Nat → Prop} {h0 : Nat} {ad : Nat → Nat} {cI cL : ClassId} {post : Int32 → (Nat → Nat → Int32) → (Nat → Nat → Int64) → Int32 → Int64 → Int32 → Prop} (C0 : mCx p s m args meth c D A h0 ad cI cL cXM_link 3 (some .boolean)) : ∀ (I : Nat → Nat → Int32) (J : Nat → Nat → Int64) (cn : Int32) (cm : Int64) (so : Int32) (a1 : Int64), wMlink post I J cn cm so a1 → ∀ (H : Heap) (locs : List Loc) (ls : Array Slot), mW D h0 ad cI cL (I, J, cn, cm, so) H → va_S A s.heap H locs → lv_has ls 3 [(0, .ref h0), (1, .long a1)] → W p l e ({ frames := 0, cells := 0, slots := 0, locals := 0 } : Room) s m args below meth c H locs 0 0 (MQ below (va_Qi (fun (r : Int32) (u : mS) => post r u.1 u.2.1 u.2.2.1 u.2.2.2.1 u.2.2.2.2) (fxC (mW D h0 ad cI cL)) A) args s 0 0 A) (F0 m 0 ls []) := by
  obtain ⟨hx, hb, hr, hml, hown, hts, hlocks, hK, hN, hD⟩ := id C0
  intro I J cn cm so a1 h H locs ls hP hS hl
  replace h : (vp_in 4 5 ∧ ((¬ (I 8 (Int32.toNatClampNeg 4)) = 4 → (vp_in 4 5 ∧ (vp_in (I 8 (Int32.toNatClampNeg 4)) 4 ∧ ∀ J4, J4 = mj_up J 6 (Int32.toNatClampNeg (I 8 (Int32.toNatClampNeg 4))) a1 → (vp_in 4 5 ∧ (vp_in 4 5 ∧ ∀ I7, I7 = mi_up I 8 (Int32.toNatClampNeg 4) ((I 8 (Int32.toNatClampNeg 4)) + 1) → (post 1 I7 J4 cn cm so)))))) ∧ ((I 8 (Int32.toNatClampNeg 4)) = 4 → (post 0 I J cn cm so)))) := h
  refine lv_aload_n hx hb dXM_link_0 rfl (lv_at hl 0 rfl) ?_
  refine mg_draftNumbers hx hb hown hts hK hP dXM_link_1 ?_
  refine lv_iconst (v := 4) hx hb dXM_link_4 (by decide) ?_
  obtain ⟨h1, h⟩ := h
  refine ma_14 hx hb hK hP h1 dXM_link_5 ?_
  refine lv_iconst (v := 4) hx hb dXM_link_6 (by decide) ?_
  refine lv_icmp_ne (tgt := 12) hx hb dXM_link_7 (by decide) (fun c2 => ?_) (fun c2 => ?_)
  · replace h := h.1 c2
    refine lv_aload_n hx hb dXM_link_12 rfl (lv_at hl 0 rfl) ?_
    refine mg_draftLink hx hb hown hts hK hP dXM_link_13 ?_
    refine lv_aload_n hx hb dXM_link_16 rfl (lv_at hl 0 rfl) ?_
    refine mg_draftNumbers hx hb hown hts hK hP dXM_link_17 ?_
    refine lv_iconst (v := 4) hx hb dXM_link_20 (by decide) ?_
    obtain ⟨h3, h⟩ := h
    refine ma_14 hx hb hK hP h3 dXM_link_21 ?_
    refine lv_lload_n hx hb dXM_link_22 rfl (lv_at hl 1 rfl) ?_
    obtain ⟨h5, h⟩ := h
    obtain ⟨J4, eJ4⟩ : ∃ y, y = mj_up J 6 (Int32.toNatClampNeg (I 8 (Int32.toNatClampNeg 4))) a1 := ⟨_, rfl⟩
    replace h := h J4 eJ4
    refine ms_15 hx hb hK hD hP hS h5 dXM_link_23 (fun H locs hP hS => ?_)
    rw [← eJ4] at hP
    refine lv_aload_n hx hb dXM_link_24 rfl (lv_at hl 0 rfl) ?_
    refine mg_draftNumbers hx hb hown hts hK hP dXM_link_25 ?_
    refine lv_iconst (v := 4) hx hb dXM_link_28 (by decide) ?_
    refine lv_dup2_11 hx hb dXM_link_29 rfl rfl ?_
    obtain ⟨h6, h⟩ := h
    refine ma_14 hx hb hK hP h6 dXM_link_30 ?_
    refine lv_iconst (v := 1) hx hb dXM_link_31 (by decide) ?_
    refine lv_iadd hx hb dXM_link_32 ?_
    obtain ⟨h8, h⟩ := h
    obtain ⟨I7, eI7⟩ : ∃ y, y = mi_up I 8 (Int32.toNatClampNeg 4) ((I 8 (Int32.toNatClampNeg 4)) + 1) := ⟨_, rfl⟩
    replace h := h I7 eI7
    refine ms_14 hx hb hK hD hP hS h8 dXM_link_33 (fun H locs hP hS => ?_)
    rw [← eI7] at hP
    refine lv_iconst (v := 1) hx hb dXM_link_34 (by decide) ?_
    exact W.zret hx hb hr rfl (fun t ht hW => ⟨⟨_, (I7, J4, cn, cm, so), rfl, h, by rw [fxC, ht]; exact hP⟩, hS.F ht⟩) hS.2.2 dXM_link_35 hlocks
  · replace h := h.2 c2
    refine lv_iconst (v := 0) hx hb dXM_link_10 (by decide) ?_
    exact W.zret hx hb hr rfl (fun t ht hW => ⟨⟨_, (I, J, cn, cm, so), rfl, h, by rw [fxC, ht]; exact hP⟩, hS.F ht⟩) hS.2.2 dXM_link_11 hlocks
set_option maxRecDepth 100000 in
set_option maxHeartbeats 4000000 in
theorem cMlink {l : Launch} {D : va_G} {A : Nat → Prop} {h0 : Nat} {ad : Nat → Nat} {cI cL : ClassId} (hD : mDs A h0 ad cI cL) {post : Int32 → (Nat → Nat → Int32) → (Nat → Nat → Int64) → Int32 → Int64 → Int32 → Prop} {I : Nat → Nat → Int32} {J : Nat → Nat → Int64} {cn : Int32} {cm : Int64} {so : Int32} {a1 : Int64} (h : wMlink post I J cn cm so a1) : Met l yXM_link (.code yXM_link cXM_link 3 (some .boolean) :: lg_tbl) ({ frames := 0, cells := 0, slots := 0, locals := 0 } : Room) (va_Pc [.ref h0, .long a1] (fxB (mW D h0 ad cI cL (I, J, cn, cm, so)) D vwCl (mTy cI cL))) (va_Qi (fun (r : Int32) (u : mS) => post r u.1 u.2.1 u.2.2.1 u.2.2.2.1 u.2.2.2.2) (fxC (mW D h0 ad cI cL)) A) 0 0 A := by
  refine fx_start (by decide +kernel) (Nat.le_of_ble_eq_true rfl) ?_
  intro p e s m below meth c ls hx hb hr hml hown hts hlocks hnm hB hl
  exact sMlink_in ⟨hx, hb, hr, hml, hown, hts, hlocks, hB.2.1, hB.2.2, hD⟩ I J cn cm so a1 h _ _ ls hB.1 va_S.rf hl
def wMdraftHash (post : Int64 → (Nat → Nat → Int32) → (Nat → Nat → Int64) → Int32 → Int64 → Int32 → Prop) (I : Nat → Nat → Int32) (J : Nat → Nat → Int64) (cn : Int32) (cm : Int64) (so : Int32) : Prop := (wMhashOfD (fun r1 I_1 J_1 cn_1 cm_1 so_1 => (post r1 I_1 J_1 cn_1 cm_1 so_1)) I J cn cm so )
set_option maxRecDepth 100000 in
set_option maxHeartbeats 4000000 in
theorem sMdraftHash_in {p : Program} {l : Launch} {e : Env} {s : State} {m : MethodId} {args : Array Value} {below : List Frame} {meth : Method} {c : Code} {D : va_G} {A : Nat → Prop} {h0 : Nat} {ad : Nat → Nat} {cI cL : ClassId} {post : Int64 → (Nat → Nat → Int32) → (Nat → Nat → Int64) → Int32 → Int64 → Int32 → Prop} (C0 : mCx p s m args meth c D A h0 ad cI cL cXM_draftHash 1 (some .long)) : ∀ (I : Nat → Nat → Int32) (J : Nat → Nat → Int64) (cn : Int32) (cm : Int64) (so : Int32), wMdraftHash post I J cn cm so → ∀ (H : Heap) (locs : List Loc) (ls : Array Slot), mW D h0 ad cI cL (I, J, cn, cm, so) H → va_S A s.heap H locs → lv_has ls 1 [(0, .ref h0)] → W p l e ({ frames := 2, cells := 0, slots := 0, locals := 49 } : Room) s m args below meth c H locs 0 0 (MQ below (va_Ql (fun (r : Int64) (u : mS) => post r u.1 u.2.1 u.2.2.1 u.2.2.2.1 u.2.2.2.2) (fxC (mW D h0 ad cI cL)) A) args s 0 0 A) (F0 m 0 ls []) := by
  obtain ⟨hx, hb, hr, hml, hown, hts, hlocks, hK, hN, hD⟩ := id C0
  intro I J cn cm so h H locs ls hP hS hl
  replace h : (wMhashOfD (fun r1 I_1 J_1 cn_1 cm_1 so_1 => (post r1 I_1 J_1 cn_1 cm_1 so_1)) I J cn cm so ) := h
  refine lv_aload_n hx hb dXM_draftHash_0 rfl (lv_at hl 0 rfl) ?_
  refine mg_draftNumbers hx hb hown hts hK hP dXM_draftHash_1 ?_
  refine lv_aload_n hx hb dXM_draftHash_4 rfl (lv_at hl 0 rfl) ?_
  refine mg_draftLink hx hb hown hts hK hP dXM_draftHash_5 ?_
  refine va_calll (va_runS (As := [.ref (ad 14), .ref (ad 15)]) (rest := []) ⟨hx, hb, hml, hown, hts⟩ (cMhashOfD hD h) (fx_cwS 2 hts gw_M_141 hdXM_hashOf ⟨Nat.le_of_ble_eq_true rfl, Nat.le_of_ble_eq_true rfl⟩) (fx_preS hP hK hN) rfl rfl hl.1 rfl (lv_room (Nat.le_of_ble_eq_true rfl)) dXM_draftHash_8 ⟨Nat.le_of_ble_eq_true rfl, Nat.le_of_ble_eq_true rfl⟩) hS (fun _ _ q => q) (fun _ q => q) (fun r1 u t H locs ht hvm h hP hz hk hS => ?_)
  rw [fxC, ht] at hP
  obtain ⟨I_1, J_1, cn_1, cm_1, so_1⟩ := u
  dsimp only at h
  exact W.lret hx hb hr (fun t ht hW => ⟨⟨_, (I_1, J_1, cn_1, cm_1, so_1), rfl, h, by rw [fxC, ht]; exact hP⟩, hS.F ht⟩) hS.2.2 dXM_draftHash_11 hlocks
set_option maxRecDepth 100000 in
set_option maxHeartbeats 4000000 in
theorem cMdraftHash {l : Launch} {D : va_G} {A : Nat → Prop} {h0 : Nat} {ad : Nat → Nat} {cI cL : ClassId} (hD : mDs A h0 ad cI cL) {post : Int64 → (Nat → Nat → Int32) → (Nat → Nat → Int64) → Int32 → Int64 → Int32 → Prop} {I : Nat → Nat → Int32} {J : Nat → Nat → Int64} {cn : Int32} {cm : Int64} {so : Int32} (h : wMdraftHash post I J cn cm so) : Met l yXM_draftHash (.code yXM_draftHash cXM_draftHash 1 (some .long) :: lg_tbl) ({ frames := 2, cells := 0, slots := 0, locals := 49 } : Room) (va_Pc [.ref h0] (fxB (mW D h0 ad cI cL (I, J, cn, cm, so)) D vwCl (mTy cI cL))) (va_Ql (fun (r : Int64) (u : mS) => post r u.1 u.2.1 u.2.2.1 u.2.2.2.1 u.2.2.2.2) (fxC (mW D h0 ad cI cL)) A) 0 0 A := by
  refine fx_start (by decide +kernel) (Nat.le_of_ble_eq_true rfl) ?_
  intro p e s m below meth c ls hx hb hr hml hown hts hlocks hnm hB hl
  exact sMdraftHash_in ⟨hx, hb, hr, hml, hown, hts, hlocks, hB.2.1, hB.2.2, hD⟩ I J cn cm so h _ _ ls hB.1 va_S.rf hl
noncomputable def wMoffer_36 (post : Int32 → (Nat → Nat → Int32) → (Nat → Nat → Int64) → Int32 → Int64 → Int32 → Prop) (n : Nat) : (Nat → Nat → Int32) → (Nat → Nat → Int64) → Int32 → Int64 → Int32 → Int32 → Int32 → Prop := Nat.rec (motive := fun _ => (Nat → Nat → Int32) → (Nat → Nat → Int64) → Int32 → Int64 → Int32 → Int32 → Int32 → Prop) (fun _ _ _ _ _ _ _ => False) (fun _ K36 I J cn cm so v1 v2 => ((4 ≤ v2 → (wMdraftHash (fun r8 I_8 J_8 cn_8 cm_8 so_8 => (wMcome (fun r9 I_9 J_9 cn_9 cm_9 so_9 => (post r9 I_9 J_9 cn_9 cm_9 so_9)) I_8 J_8 cn_8 r8 so_8 v1)) I J cn cm so )) ∧ (¬ 4 ≤ v2 → (vp_in v2 4 ∧ (vp_in v2 4 ∧ ∀ J11, J11 = mj_up J 7 (Int32.toNatClampNeg v2) (J 6 (Int32.toNatClampNeg v2)) → (K36 I J11 cn cm so v1 (v2 + 1))))))) n
noncomputable def wMoffer_11 (post : Int32 → (Nat → Nat → Int32) → (Nat → Nat → Int64) → Int32 → Int64 → Int32 → Prop) (n : Nat) : (Nat → Nat → Int32) → (Nat → Nat → Int64) → Int32 → Int64 → Int32 → Int32 → Int32 → Prop := Nat.rec (motive := fun _ => (Nat → Nat → Int32) → (Nat → Nat → Int64) → Int32 → Int64 → Int32 → Int32 → Int32 → Prop) (fun _ _ _ _ _ _ _ => False) (fun _ K11 I J cn cm so v1 v2 => ((5 ≤ v2 → (∃ k, wMoffer_36 post  k I J cn cm so v1 0)) ∧ (¬ 5 ≤ v2 → (vp_in v2 5 ∧ (vp_in v2 5 ∧ ∀ I5, I5 = mi_up I 9 (Int32.toNatClampNeg v2) (I 8 (Int32.toNatClampNeg v2)) → (K11 I5 J cn cm so v1 (v2 + 1))))))) n
def wMoffer (post : Int32 → (Nat → Nat → Int32) → (Nat → Nat → Int64) → Int32 → Int64 → Int32 → Prop) (I : Nat → Nat → Int32) (J : Nat → Nat → Int64) (cn : Int32) (cm : Int64) (so : Int32) (a1 : Int32) : Prop := (wMisReplica (fun r1 I_1 J_1 cn_1 cm_1 so_1 => ((¬ r1 = 0 → (∃ k, wMoffer_11 post  k I_1 J_1 cn_1 cm_1 so_1 a1 0)) ∧ (r1 = 0 → (post (-1) I_1 J_1 cn_1 cm_1 so_1)))) I J cn cm so a1)
set_option maxRecDepth 100000 in
set_option maxHeartbeats 4000000 in
theorem sMoffer_36 {p : Program} {l : Launch} {e : Env} {s : State} {m : MethodId} {args : Array Value} {below : List Frame} {meth : Method} {c : Code} {D : va_G} {A : Nat → Prop} {h0 : Nat} {ad : Nat → Nat} {cI cL : ClassId} {post : Int32 → (Nat → Nat → Int32) → (Nat → Nat → Int64) → Int32 → Int64 → Int32 → Prop} (C0 : mCx p s m args meth c D A h0 ad cI cL cXM_offer 3 (some .int)) : ∀ (n : Nat) (I : Nat → Nat → Int32) (J : Nat → Nat → Int64) (cn : Int32) (cm : Int64) (so : Int32) (v1 : Int32) (v2 : Int32), wMoffer_36 post  n I J cn cm so v1 v2 → ∀ (H : Heap) (locs : List Loc) (ls : Array Slot), mW D h0 ad cI cL (I, J, cn, cm, so) H → va_S A s.heap H locs → lv_has ls 3 [(0, .ref h0), (1, .int v1), (2, .int v2)] → W p l e ({ frames := 5, cells := 0, slots := 0, locals := 121 } : Room) s m args below meth c H locs 0 0 (MQ below (va_Qi (fun (r : Int32) (u : mS) => post r u.1 u.2.1 u.2.2.1 u.2.2.2.1 u.2.2.2.2) (fxC (mW D h0 ad cI cL)) A) args s 0 0 A) (F0 m 36 ls []) := by
  obtain ⟨hx, hb, hr, hml, hown, hts, hlocks, hK, hN, hD⟩ := id C0
  intro n
  induction n with
  | zero => exact fun _ _ _ _ _ _ _ h => h.elim
  | succ n hK36 =>
    intro I J cn cm so v1 v2 h H locs ls hP hS hl
    replace h : ((4 ≤ v2 → (wMdraftHash (fun r8 I_8 J_8 cn_8 cm_8 so_8 => (wMcome (fun r9 I_9 J_9 cn_9 cm_9 so_9 => (post r9 I_9 J_9 cn_9 cm_9 so_9)) I_8 J_8 cn_8 r8 so_8 v1)) I J cn cm so )) ∧ (¬ 4 ≤ v2 → (vp_in v2 4 ∧ (vp_in v2 4 ∧ ∀ J11, J11 = mj_up J 7 (Int32.toNatClampNeg v2) (J 6 (Int32.toNatClampNeg v2)) → ((wMoffer_36 post  n) I J11 cn cm so v1 (v2 + 1)))))) := h
    refine lv_iload_n hx hb dXM_offer_36 rfl (lv_at hl 2 rfl) ?_
    refine lv_iconst (v := 4) hx hb dXM_offer_37 (by decide) ?_
    refine lv_icmp_ge (tgt := 59) hx hb dXM_offer_38 (by decide) (fun c7 => ?_) (fun c7 => ?_)
    · replace h := h.1 c7
      refine lv_aload_n hx hb dXM_offer_59 rfl (lv_at hl 0 rfl) ?_
      refine lv_aload_n hx hb dXM_offer_60 rfl (lv_at hl 0 rfl) ?_
      refine va_calll (va_runV (As := []) (rest := [.ref h0]) ⟨hx, hb, hml, hown, hts⟩ (cMdraftHash hD h) (fx_cwV 0 hts gw_M_148 hdXM_draftHash ⟨Nat.le_of_ble_eq_true rfl, Nat.le_of_ble_eq_true rfl⟩) (fx_preV (m_recv hK hP) hP hK hN) rfl rfl hl.1 rfl (lv_room (Nat.le_of_ble_eq_true rfl)) dXM_offer_61 ⟨Nat.le_of_ble_eq_true rfl, Nat.le_of_ble_eq_true rfl⟩) hS (fun _ _ q => q) (fun _ q => q) (fun r8 u t H locs ht hvm h hP hz hk hS => ?_)
      rw [fxC, ht] at hP
      obtain ⟨I_8, J_8, cn_8, cm_8, so_8⟩ := u
      dsimp only at h
      refine mp_coming hx hb hown hts hK hD hP hS dXM_offer_64 (fun H locs hP hS => ?_)
      refine lv_aload_n hx hb dXM_offer_67 rfl (lv_at hl 0 rfl) ?_
      refine lv_iload_n hx hb dXM_offer_68 rfl (lv_at hl 1 rfl) ?_
      refine va_calli (va_runV (As := [.int v1]) (rest := []) ⟨hx, hb, hml, hown, hts⟩ (cMcome hD h) (fx_cwV 1 hts gw_M_145 hdXM_come ⟨Nat.le_of_ble_eq_true rfl, Nat.le_of_ble_eq_true rfl⟩) (fx_preV (m_recv hK hP) hP hK hN) rfl rfl hl.1 rfl (lv_room (Nat.le_of_ble_eq_true rfl)) dXM_offer_69 ⟨Nat.le_of_ble_eq_true rfl, Nat.le_of_ble_eq_true rfl⟩) hS (fun _ _ q => q) (fun _ q => q) (fun r9 u t H locs ht hvm h hP hz hk hS => ?_)
      rw [fxC, ht] at hP
      obtain ⟨I_9, J_9, cn_9, cm_9, so_9⟩ := u
      dsimp only at h
      exact W.iret hx hb hr (fun t ht hW => ⟨⟨_, (I_9, J_9, cn_9, cm_9, so_9), rfl, h, by rw [fxC, ht]; exact hP⟩, hS.F ht⟩) hS.2.2 dXM_offer_72 hlocks
    · replace h := h.2 c7
      refine lv_aload_n hx hb dXM_offer_41 rfl (lv_at hl 0 rfl) ?_
      refine mg_comingLink hx hb hown hts hK hP dXM_offer_42 ?_
      refine lv_iload_n hx hb dXM_offer_45 rfl (lv_at hl 2 rfl) ?_
      refine lv_aload_n hx hb dXM_offer_46 rfl (lv_at hl 0 rfl) ?_
      refine mg_draftLink hx hb hown hts hK hP dXM_offer_47 ?_
      refine lv_iload_n hx hb dXM_offer_50 rfl (lv_at hl 2 rfl) ?_
      obtain ⟨h10, h⟩ := h
      refine ma_15 hx hb hK hP h10 dXM_offer_51 ?_
      obtain ⟨h12, h⟩ := h
      obtain ⟨J11, eJ11⟩ : ∃ y, y = mj_up J 7 (Int32.toNatClampNeg v2) (J 6 (Int32.toNatClampNeg v2)) := ⟨_, rfl⟩
      replace h := h J11 eJ11
      refine ms_17 hx hb hK hD hP hS h12 dXM_offer_52 (fun H locs hP hS => ?_)
      rw [← eJ11] at hP
      refine lv_iinc (v := v2 + 1) (lv' := [(2, .int (v2 + 1)), (0, .ref h0), (1, .int v1)]) hx hb dXM_offer_53 hl (k := 2) rfl rfl (by decide) rfl (fun ls hl => ?_)
      refine lv_goto (tgt := 36) hx hb dXM_offer_56 (by decide) ?_
      exact hK36 I J11 cn cm so v1 (v2 + 1) h H locs ls hP hS (lv_sub hl [1, 2, 0] rfl)
set_option maxRecDepth 100000 in
set_option maxHeartbeats 4000000 in
theorem sMoffer_11 {p : Program} {l : Launch} {e : Env} {s : State} {m : MethodId} {args : Array Value} {below : List Frame} {meth : Method} {c : Code} {D : va_G} {A : Nat → Prop} {h0 : Nat} {ad : Nat → Nat} {cI cL : ClassId} {post : Int32 → (Nat → Nat → Int32) → (Nat → Nat → Int64) → Int32 → Int64 → Int32 → Prop} (C0 : mCx p s m args meth c D A h0 ad cI cL cXM_offer 3 (some .int)) : ∀ (n : Nat) (I : Nat → Nat → Int32) (J : Nat → Nat → Int64) (cn : Int32) (cm : Int64) (so : Int32) (v1 : Int32) (v2 : Int32), wMoffer_11 post  n I J cn cm so v1 v2 → ∀ (H : Heap) (locs : List Loc) (ls : Array Slot), mW D h0 ad cI cL (I, J, cn, cm, so) H → va_S A s.heap H locs → lv_has ls 3 [(0, .ref h0), (1, .int v1), (2, .int v2)] → W p l e ({ frames := 5, cells := 0, slots := 0, locals := 121 } : Room) s m args below meth c H locs 0 0 (MQ below (va_Qi (fun (r : Int32) (u : mS) => post r u.1 u.2.1 u.2.2.1 u.2.2.2.1 u.2.2.2.2) (fxC (mW D h0 ad cI cL)) A) args s 0 0 A) (F0 m 11 ls []) := by
  obtain ⟨hx, hb, hr, hml, hown, hts, hlocks, hK, hN, hD⟩ := id C0
  intro n
  induction n with
  | zero => exact fun _ _ _ _ _ _ _ h => h.elim
  | succ n hK11 =>
    intro I J cn cm so v1 v2 h H locs ls hP hS hl
    replace h : ((5 ≤ v2 → (∃ k, wMoffer_36 post  k I J cn cm so v1 0)) ∧ (¬ 5 ≤ v2 → (vp_in v2 5 ∧ (vp_in v2 5 ∧ ∀ I5, I5 = mi_up I 9 (Int32.toNatClampNeg v2) (I 8 (Int32.toNatClampNeg v2)) → ((wMoffer_11 post  n) I5 J cn cm so v1 (v2 + 1)))))) := h
    refine lv_iload_n hx hb dXM_offer_11 rfl (lv_at hl 2 rfl) ?_
    refine lv_iconst (v := 5) hx hb dXM_offer_12 (by decide) ?_
    refine lv_icmp_ge (tgt := 34) hx hb dXM_offer_13 (by decide) (fun c3 => ?_) (fun c3 => ?_)
    · replace h := h.1 c3
      refine lv_iconst (v := 0) hx hb dXM_offer_34 (by decide) ?_
      refine lv_istore_n (lv' := [(2, .int 0), (0, .ref h0), (1, .int v1)]) hx hb dXM_offer_35 rfl hl (by decide) rfl (fun ls hl => ?_)
      obtain ⟨k, h⟩ := h
      exact sMoffer_36  C0  k I J cn cm so v1 0 h H locs ls hP hS (lv_sub hl [1, 2, 0] rfl)
    · replace h := h.2 c3
      refine lv_aload_n hx hb dXM_offer_16 rfl (lv_at hl 0 rfl) ?_
      refine mg_numbers hx hb hown hts hK hP dXM_offer_17 ?_
      refine lv_iload_n hx hb dXM_offer_20 rfl (lv_at hl 2 rfl) ?_
      refine lv_aload_n hx hb dXM_offer_21 rfl (lv_at hl 0 rfl) ?_
      refine mg_draftNumbers hx hb hown hts hK hP dXM_offer_22 ?_
      refine lv_iload_n hx hb dXM_offer_25 rfl (lv_at hl 2 rfl) ?_
      obtain ⟨h4, h⟩ := h
      refine ma_14 hx hb hK hP h4 dXM_offer_26 ?_
      obtain ⟨h6, h⟩ := h
      obtain ⟨I5, eI5⟩ : ∃ y, y = mi_up I 9 (Int32.toNatClampNeg v2) (I 8 (Int32.toNatClampNeg v2)) := ⟨_, rfl⟩
      replace h := h I5 eI5
      refine ms_16 hx hb hK hD hP hS h6 dXM_offer_27 (fun H locs hP hS => ?_)
      rw [← eI5] at hP
      refine lv_iinc (v := v2 + 1) (lv' := [(2, .int (v2 + 1)), (0, .ref h0), (1, .int v1)]) hx hb dXM_offer_28 hl (k := 2) rfl rfl (by decide) rfl (fun ls hl => ?_)
      refine lv_goto (tgt := 11) hx hb dXM_offer_31 (by decide) ?_
      exact hK11 I5 J cn cm so v1 (v2 + 1) h H locs ls hP hS (lv_sub hl [1, 2, 0] rfl)
set_option maxRecDepth 100000 in
set_option maxHeartbeats 4000000 in
theorem sMoffer_in {p : Program} {l : Launch} {e : Env} {s : State} {m : MethodId} {args : Array Value} {below : List Frame} {meth : Method} {c : Code} {D : va_G} {A : Nat → Prop} {h0 : Nat} {ad : Nat → Nat} {cI cL : ClassId} {post : Int32 → (Nat → Nat → Int32) → (Nat → Nat → Int64) → Int32 → Int64 → Int32 → Prop} (C0 : mCx p s m args meth c D A h0 ad cI cL cXM_offer 3 (some .int)) : ∀ (I : Nat → Nat → Int32) (J : Nat → Nat → Int64) (cn : Int32) (cm : Int64) (so : Int32) (a1 : Int32), wMoffer post I J cn cm so a1 → ∀ (H : Heap) (locs : List Loc) (ls : Array Slot), mW D h0 ad cI cL (I, J, cn, cm, so) H → va_S A s.heap H locs → lv_has ls 3 [(0, .ref h0), (1, .int a1)] → W p l e ({ frames := 5, cells := 0, slots := 0, locals := 121 } : Room) s m args below meth c H locs 0 0 (MQ below (va_Qi (fun (r : Int32) (u : mS) => post r u.1 u.2.1 u.2.2.1 u.2.2.2.1 u.2.2.2.2) (fxC (mW D h0 ad cI cL)) A) args s 0 0 A) (F0 m 0 ls []) := by
  obtain ⟨hx, hb, hr, hml, hown, hts, hlocks, hK, hN, hD⟩ := id C0
  intro I J cn cm so a1 h H locs ls hP hS hl
  replace h : (wMisReplica (fun r1 I_1 J_1 cn_1 cm_1 so_1 => ((¬ r1 = 0 → (∃ k, wMoffer_11 post  k I_1 J_1 cn_1 cm_1 so_1 a1 0)) ∧ (r1 = 0 → (post (-1) I_1 J_1 cn_1 cm_1 so_1)))) I J cn cm so a1) := h
  refine lv_iload_n hx hb dXM_offer_0 rfl (lv_at hl 1 rfl) ?_
  refine va_calli (va_runS (As := [.int a1]) (rest := []) ⟨hx, hb, hml, hown, hts⟩ (cMisReplica hD h) (fx_cwS 1 hts gw_M_132 hdXM_isReplica ⟨Nat.le_of_ble_eq_true rfl, Nat.le_of_ble_eq_true rfl⟩) (fx_preS hP hK hN) rfl rfl hl.1 rfl (lv_room (Nat.le_of_ble_eq_true rfl)) dXM_offer_1 ⟨Nat.le_of_ble_eq_true rfl, Nat.le_of_ble_eq_true rfl⟩) hS (fun _ _ q => q) (fun _ q => q) (fun r1 u t H locs ht hvm h hP hz hk hS => ?_)
  rw [fxC, ht] at hP
  obtain ⟨I_1, J_1, cn_1, cm_1, so_1⟩ := u
  dsimp only at h
  refine lv_if_ne (tgt := 9) hx hb dXM_offer_4 (by decide) (fun c2 => ?_) (fun c2 => ?_)
  · replace h := h.1 c2
    refine lv_iconst (v := 0) hx hb dXM_offer_9 (by decide) ?_
    refine lv_istore_n (lv' := [(2, .int 0), (0, .ref h0), (1, .int a1)]) hx hb dXM_offer_10 rfl hl (by decide) rfl (fun ls hl => ?_)
    obtain ⟨k, h⟩ := h
    exact sMoffer_11  C0  k I_1 J_1 cn_1 cm_1 so_1 a1 0 h H locs ls hP hS (lv_sub hl [1, 2, 0] rfl)
  · replace h := h.2 c2
    refine lv_iconst (v := (-1)) hx hb dXM_offer_7 (by decide) ?_
    exact W.iret hx hb hr (fun t ht hW => ⟨⟨_, (I_1, J_1, cn_1, cm_1, so_1), rfl, h, by rw [fxC, ht]; exact hP⟩, hS.F ht⟩) hS.2.2 dXM_offer_8 hlocks
set_option maxRecDepth 100000 in
set_option maxHeartbeats 4000000 in
theorem cMoffer {l : Launch} {D : va_G} {A : Nat → Prop} {h0 : Nat} {ad : Nat → Nat} {cI cL : ClassId} (hD : mDs A h0 ad cI cL) {post : Int32 → (Nat → Nat → Int32) → (Nat → Nat → Int64) → Int32 → Int64 → Int32 → Prop} {I : Nat → Nat → Int32} {J : Nat → Nat → Int64} {cn : Int32} {cm : Int64} {so : Int32} {a1 : Int32} (h : wMoffer post I J cn cm so a1) : Met l yXM_offer (.code yXM_offer cXM_offer 3 (some .int) :: lg_tbl) ({ frames := 5, cells := 0, slots := 0, locals := 121 } : Room) (va_Pc [.ref h0, .int a1] (fxB (mW D h0 ad cI cL (I, J, cn, cm, so)) D vwCl (mTy cI cL))) (va_Qi (fun (r : Int32) (u : mS) => post r u.1 u.2.1 u.2.2.1 u.2.2.2.1 u.2.2.2.2) (fxC (mW D h0 ad cI cL)) A) 0 0 A := by
  refine fx_start (by decide +kernel) (Nat.le_of_ble_eq_true rfl) ?_
  intro p e s m below meth c ls hx hb hr hml hown hts hlocks hnm hB hl
  exact sMoffer_in ⟨hx, hb, hr, hml, hown, hts, hlocks, hB.2.1, hB.2.2, hD⟩ I J cn cm so a1 h _ _ ls hB.1 va_S.rf hl
noncomputable def wMlinkSet_17 (post : Int64 → (Nat → Nat → Int32) → (Nat → Nat → Int64) → Int32 → Int64 → Int32 → Prop) (K5 : (Nat → Nat → Int32) → (Nat → Nat → Int64) → Int32 → Int64 → Int32 → Int64 → Int64 → Int32 → Prop) (n : Nat) : (Nat → Nat → Int32) → (Nat → Nat → Int64) → Int32 → Int64 → Int32 → Int64 → Int64 → Int32 → Int32 → Prop := Nat.rec (motive := fun _ => (Nat → Nat → Int32) → (Nat → Nat → Int64) → Int32 → Int64 → Int32 → Int64 → Int64 → Int32 → Int32 → Prop) (fun _ _ _ _ _ _ _ _ _ => False) (fun _ K17 I J cn cm so v1 v3 v5 v6 => (vp_in v5 40 ∧ (((I 4 (Int32.toNatClampNeg v5)) ≤ v6 → (K5 I J cn cm so v1 v3 (v5 + 1))) ∧ (¬ (I 4 (Int32.toNatClampNeg v5)) ≤ v6 → (wMin (fun r4 I_4 J_4 cn_4 cm_4 so_4 => ((r4 = 0 → (K5 I_4 J_4 cn_4 cm_4 so_4 v1 v3 (v5 + 1))) ∧ (¬ r4 = 0 → (vp_in ((4 * v5) + v6) 160 ∧ (wMfind (fun r7 I_7 J_7 cn_7 cm_7 so_7 => (K17 I_7 J_7 cn_7 cm_7 so_7 v1 (v3 ||| (hj_shl 1 r7)) v5 (v6 + 1))) I_4 J_4 cn_4 cm_4 so_4 (J_4 1 (Int32.toNatClampNeg ((4 * v5) + v6)))))))) I J cn cm so v1 v5))))) n
noncomputable def wMlinkSet_5 (post : Int64 → (Nat → Nat → Int32) → (Nat → Nat → Int64) → Int32 → Int64 → Int32 → Prop) (n : Nat) : (Nat → Nat → Int32) → (Nat → Nat → Int64) → Int32 → Int64 → Int32 → Int64 → Int64 → Int32 → Prop := Nat.rec (motive := fun _ => (Nat → Nat → Int32) → (Nat → Nat → Int64) → Int32 → Int64 → Int32 → Int64 → Int64 → Int32 → Prop) (fun _ _ _ _ _ _ _ _ => False) (fun _ K5 I J cn cm so v1 v3 v5 => ((cn ≤ v5 → (post v3 I J cn cm so)) ∧ (¬ cn ≤ v5 → (∃ k, wMlinkSet_17 post K5 k I J cn cm so v1 v3 v5 0)))) n
def wMlinkSet (post : Int64 → (Nat → Nat → Int32) → (Nat → Nat → Int64) → Int32 → Int64 → Int32 → Prop) (I : Nat → Nat → Int32) (J : Nat → Nat → Int64) (cn : Int32) (cm : Int64) (so : Int32) (a1 : Int64) : Prop := (∃ k, wMlinkSet_5 post  k I J cn cm so a1 0 0)
set_option maxRecDepth 100000 in
set_option maxHeartbeats 4000000 in
theorem sMlinkSet_17 {p : Program} {l : Launch} {e : Env} {s : State} {m : MethodId} {args : Array Value} {below : List Frame} {meth : Method} {c : Code} {D : va_G} {A : Nat → Prop} {h0 : Nat} {ad : Nat → Nat} {cI cL : ClassId} {post : Int64 → (Nat → Nat → Int32) → (Nat → Nat → Int64) → Int32 → Int64 → Int32 → Prop} (C0 : mCx p s m args meth c D A h0 ad cI cL cXM_linkSet 7 (some .long)) {K5 : (Nat → Nat → Int32) → (Nat → Nat → Int64) → Int32 → Int64 → Int32 → Int64 → Int64 → Int32 → Prop} (hK5 : ∀ (I : Nat → Nat → Int32) (J : Nat → Nat → Int64) (cn : Int32) (cm : Int64) (so : Int32) (v1 : Int64) (v3 : Int64) (v5 : Int32), K5 I J cn cm so v1 v3 v5 → ∀ (H : Heap) (locs : List Loc) (ls : Array Slot), mW D h0 ad cI cL (I, J, cn, cm, so) H → va_S A s.heap H locs → lv_has ls 7 [(0, .ref h0), (1, .long v1), (3, .long v3), (5, .int v5)] → W p l e ({ frames := 1, cells := 0, slots := 0, locals := 24 } : Room) s m args below meth c H locs 0 0 (MQ below (va_Ql (fun (r : Int64) (u : mS) => post r u.1 u.2.1 u.2.2.1 u.2.2.2.1 u.2.2.2.2) (fxC (mW D h0 ad cI cL)) A) args s 0 0 A) (F0 m 5 ls [])) : ∀ (n : Nat) (I : Nat → Nat → Int32) (J : Nat → Nat → Int64) (cn : Int32) (cm : Int64) (so : Int32) (v1 : Int64) (v3 : Int64) (v5 : Int32) (v6 : Int32), wMlinkSet_17 post K5 n I J cn cm so v1 v3 v5 v6 → ∀ (H : Heap) (locs : List Loc) (ls : Array Slot), mW D h0 ad cI cL (I, J, cn, cm, so) H → va_S A s.heap H locs → lv_has ls 7 [(0, .ref h0), (1, .long v1), (3, .long v3), (5, .int v5), (6, .int v6)] → W p l e ({ frames := 1, cells := 0, slots := 0, locals := 24 } : Room) s m args below meth c H locs 0 0 (MQ below (va_Ql (fun (r : Int64) (u : mS) => post r u.1 u.2.1 u.2.2.1 u.2.2.2.1 u.2.2.2.2) (fxC (mW D h0 ad cI cL)) A) args s 0 0 A) (F0 m 17 ls []) := by
  obtain ⟨hx, hb, hr, hml, hown, hts, hlocks, hK, hN, hD⟩ := id C0
  intro n
  induction n with
  | zero => exact fun _ _ _ _ _ _ _ _ _ h => h.elim
  | succ n hK17 =>
    intro I J cn cm so v1 v3 v5 v6 h H locs ls hP hS hl
    replace h : (vp_in v5 40 ∧ (((I 4 (Int32.toNatClampNeg v5)) ≤ v6 → (K5 I J cn cm so v1 v3 (v5 + 1))) ∧ (¬ (I 4 (Int32.toNatClampNeg v5)) ≤ v6 → (wMin (fun r4 I_4 J_4 cn_4 cm_4 so_4 => ((r4 = 0 → (K5 I_4 J_4 cn_4 cm_4 so_4 v1 v3 (v5 + 1))) ∧ (¬ r4 = 0 → (vp_in ((4 * v5) + v6) 160 ∧ (wMfind (fun r7 I_7 J_7 cn_7 cm_7 so_7 => ((wMlinkSet_17 post K5 n) I_7 J_7 cn_7 cm_7 so_7 v1 (v3 ||| (hj_shl 1 r7)) v5 (v6 + 1))) I_4 J_4 cn_4 cm_4 so_4 (J_4 1 (Int32.toNatClampNeg ((4 * v5) + v6)))))))) I J cn cm so v1 v5)))) := h
    refine lv_iload hx hb dXM_linkSet_17 (lv_at hl 4 rfl) ?_
    refine lv_aload_n hx hb dXM_linkSet_19 rfl (lv_at hl 0 rfl) ?_
    refine mg_links hx hb hown hts hK hP dXM_linkSet_20 ?_
    refine lv_iload hx hb dXM_linkSet_23 (lv_at hl 3 rfl) ?_
    obtain ⟨h2, h⟩ := h
    refine ma_5 hx hb hK hP h2 dXM_linkSet_25 ?_
    refine lv_icmp_ge (tgt := 65) hx hb dXM_linkSet_26 (by decide) (fun c3 => ?_) (fun c3 => ?_)
    · replace h := h.1 c3
      refine lv_iinc (v := v5 + 1) (lv' := [(5, .int (v5 + 1)), (0, .ref h0), (1, .long v1), (3, .long v3), (6, .int v6)]) hx hb dXM_linkSet_65 hl (k := 3) rfl rfl (by decide) rfl (fun ls hl => ?_)
      refine lv_goto (tgt := 5) hx hb dXM_linkSet_68 (by decide) ?_
      exact hK5 I J cn cm so v1 v3 (v5 + 1) h H locs ls hP hS (lv_sub hl [1, 2, 3, 0] rfl)
    · replace h := h.2 c3
      refine lv_lload_n hx hb dXM_linkSet_29 rfl (lv_at hl 1 rfl) ?_
      refine lv_iload hx hb dXM_linkSet_30 (lv_at hl 3 rfl) ?_
      refine va_calli (va_runS (As := [.long v1, .int v5]) (rest := []) ⟨hx, hb, hml, hown, hts⟩ (cMin hD h) (fx_cwS 2 hts gw_M_88 hdXM_in ⟨Nat.le_of_ble_eq_true rfl, Nat.le_of_ble_eq_true rfl⟩) (fx_preS hP hK hN) rfl rfl hl.1 rfl (lv_room (Nat.le_of_ble_eq_true rfl)) dXM_linkSet_32 ⟨Nat.le_of_ble_eq_true rfl, Nat.le_of_ble_eq_true rfl⟩) hS (fun _ _ q => q) (fun _ q => q) (fun r4 u t H locs ht hvm h hP hz hk hS => ?_)
      rw [fxC, ht] at hP
      obtain ⟨I_4, J_4, cn_4, cm_4, so_4⟩ := u
      dsimp only at h
      refine lv_if_eq (tgt := 65) hx hb dXM_linkSet_35 (by decide) (fun c5 => ?_) (fun c5 => ?_)
      · replace h := h.1 c5
        refine lv_iinc (v := v5 + 1) (lv' := [(5, .int (v5 + 1)), (0, .ref h0), (1, .long v1), (3, .long v3), (6, .int v6)]) hx hb dXM_linkSet_65 hl (k := 3) rfl rfl (by decide) rfl (fun ls hl => ?_)
        refine lv_goto (tgt := 5) hx hb dXM_linkSet_68 (by decide) ?_
        exact hK5 I_4 J_4 cn_4 cm_4 so_4 v1 v3 (v5 + 1) h H locs ls hP hS (lv_sub hl [1, 2, 3, 0] rfl)
      · replace h := h.2 c5
        refine lv_lload_n hx hb dXM_linkSet_38 rfl (lv_at hl 2 rfl) ?_
        refine lv_lconst (v := 1) hx hb dXM_linkSet_39 (by decide) ?_
        refine lv_aload_n hx hb dXM_linkSet_40 rfl (lv_at hl 0 rfl) ?_
        refine lv_aload_n hx hb dXM_linkSet_41 rfl (lv_at hl 0 rfl) ?_
        refine mg_link hx hb hown hts hK hP dXM_linkSet_42 ?_
        refine lv_iconst (v := 4) hx hb dXM_linkSet_45 (by decide) ?_
        refine lv_iload hx hb dXM_linkSet_46 (lv_at hl 3 rfl) ?_
        refine lv_imul hx hb dXM_linkSet_48 ?_
        refine lv_iload hx hb dXM_linkSet_49 (lv_at hl 4 rfl) ?_
        refine lv_iadd hx hb dXM_linkSet_51 ?_
        obtain ⟨h6, h⟩ := h
        refine ma_6 hx hb hK hP h6 dXM_linkSet_52 ?_
        refine va_calli (va_runV (As := [.long (J_4 1 (Int32.toNatClampNeg ((4 * v5) + v6)))]) (rest := [.long 1, .long v3]) ⟨hx, hb, hml, hown, hts⟩ (cMfind hD h) (fx_cwV 1 hts gw_M_84 hdXM_find ⟨Nat.le_of_ble_eq_true rfl, Nat.le_of_ble_eq_true rfl⟩) (fx_preV (m_recv hK hP) hP hK hN) rfl rfl hl.1 rfl (lv_room (Nat.le_of_ble_eq_true rfl)) dXM_linkSet_53 ⟨Nat.le_of_ble_eq_true rfl, Nat.le_of_ble_eq_true rfl⟩) hS (fun _ _ q => q) (fun _ q => q) (fun r7 u t H locs ht hvm h hP hz hk hS => ?_)
        rw [fxC, ht] at hP
        obtain ⟨I_7, J_7, cn_7, cm_7, so_7⟩ := u
        dsimp only at h
        refine lv_lshl (v := hj_shl 1 r7) hx hb dXM_linkSet_56 rfl ?_
        refine lv_lor hx hb dXM_linkSet_57 ?_
        refine lv_lstore_n (lv' := [(3, .long (v3 ||| (hj_shl 1 r7))), (0, .ref h0), (1, .long v1), (5, .int v5), (6, .int v6)]) hx hb dXM_linkSet_58 rfl hl (by decide) rfl (fun ls hl => ?_)
        refine lv_iinc (v := v6 + 1) (lv' := [(6, .int (v6 + 1)), (3, .long (v3 ||| (hj_shl 1 r7))), (0, .ref h0), (1, .long v1), (5, .int v5)]) hx hb dXM_linkSet_59 hl (k := 4) rfl rfl (by decide) rfl (fun ls hl => ?_)
        refine lv_goto (tgt := 17) hx hb dXM_linkSet_62 (by decide) ?_
        exact hK17 I_7 J_7 cn_7 cm_7 so_7 v1 (v3 ||| (hj_shl 1 r7)) v5 (v6 + 1) h H locs ls hP hS (lv_sub hl [2, 3, 1, 4, 0] rfl)
set_option maxRecDepth 100000 in
set_option maxHeartbeats 4000000 in
theorem sMlinkSet_5 {p : Program} {l : Launch} {e : Env} {s : State} {m : MethodId} {args : Array Value} {below : List Frame} {meth : Method} {c : Code} {D : va_G} {A : Nat → Prop} {h0 : Nat} {ad : Nat → Nat} {cI cL : ClassId} {post : Int64 → (Nat → Nat → Int32) → (Nat → Nat → Int64) → Int32 → Int64 → Int32 → Prop} (C0 : mCx p s m args meth c D A h0 ad cI cL cXM_linkSet 7 (some .long)) : ∀ (n : Nat) (I : Nat → Nat → Int32) (J : Nat → Nat → Int64) (cn : Int32) (cm : Int64) (so : Int32) (v1 : Int64) (v3 : Int64) (v5 : Int32), wMlinkSet_5 post  n I J cn cm so v1 v3 v5 → ∀ (H : Heap) (locs : List Loc) (ls : Array Slot), mW D h0 ad cI cL (I, J, cn, cm, so) H → va_S A s.heap H locs → lv_has ls 7 [(0, .ref h0), (1, .long v1), (3, .long v3), (5, .int v5)] → W p l e ({ frames := 1, cells := 0, slots := 0, locals := 24 } : Room) s m args below meth c H locs 0 0 (MQ below (va_Ql (fun (r : Int64) (u : mS) => post r u.1 u.2.1 u.2.2.1 u.2.2.2.1 u.2.2.2.2) (fxC (mW D h0 ad cI cL)) A) args s 0 0 A) (F0 m 5 ls []) := by
  obtain ⟨hx, hb, hr, hml, hown, hts, hlocks, hK, hN, hD⟩ := id C0
  intro n
  induction n with
  | zero => exact fun _ _ _ _ _ _ _ _ h => h.elim
  | succ n hK5 =>
    intro I J cn cm so v1 v3 v5 h H locs ls hP hS hl
    replace h : ((cn ≤ v5 → (post v3 I J cn cm so)) ∧ (¬ cn ≤ v5 → (∃ k, wMlinkSet_17 post (wMlinkSet_5 post  n) k I J cn cm so v1 v3 v5 0))) := h
    refine lv_iload hx hb dXM_linkSet_5 (lv_at hl 3 rfl) ?_
    refine lv_aload_n hx hb dXM_linkSet_7 rfl (lv_at hl 0 rfl) ?_
    refine mg_count hx hb hown hts hK hP dXM_linkSet_8 ?_
    refine lv_icmp_ge (tgt := 71) hx hb dXM_linkSet_11 (by decide) (fun c1 => ?_) (fun c1 => ?_)
    · replace h := h.1 c1
      refine lv_lload_n hx hb dXM_linkSet_71 rfl (lv_at hl 2 rfl) ?_
      exact W.lret hx hb hr (fun t ht hW => ⟨⟨_, (I, J, cn, cm, so), rfl, h, by rw [fxC, ht]; exact hP⟩, hS.F ht⟩) hS.2.2 dXM_linkSet_72 hlocks
    · replace h := h.2 c1
      refine lv_iconst (v := 0) hx hb dXM_linkSet_14 (by decide) ?_
      refine lv_istore (lv' := [(6, .int 0), (0, .ref h0), (1, .long v1), (3, .long v3), (5, .int v5)]) hx hb dXM_linkSet_15 hl (by decide) rfl (fun ls hl => ?_)
      obtain ⟨k, h⟩ := h
      exact sMlinkSet_17  C0 hK5 k I J cn cm so v1 v3 v5 0 h H locs ls hP hS (lv_sub hl [1, 2, 3, 4, 0] rfl)
set_option maxRecDepth 100000 in
set_option maxHeartbeats 4000000 in
theorem sMlinkSet_in {p : Program} {l : Launch} {e : Env} {s : State} {m : MethodId} {args : Array Value} {below : List Frame} {meth : Method} {c : Code} {D : va_G} {A : Nat → Prop} {h0 : Nat} {ad : Nat → Nat} {cI cL : ClassId} {post : Int64 → (Nat → Nat → Int32) → (Nat → Nat → Int64) → Int32 → Int64 → Int32 → Prop} (C0 : mCx p s m args meth c D A h0 ad cI cL cXM_linkSet 7 (some .long)) : ∀ (I : Nat → Nat → Int32) (J : Nat → Nat → Int64) (cn : Int32) (cm : Int64) (so : Int32) (a1 : Int64), wMlinkSet post I J cn cm so a1 → ∀ (H : Heap) (locs : List Loc) (ls : Array Slot), mW D h0 ad cI cL (I, J, cn, cm, so) H → va_S A s.heap H locs → lv_has ls 7 [(0, .ref h0), (1, .long a1)] → W p l e ({ frames := 1, cells := 0, slots := 0, locals := 24 } : Room) s m args below meth c H locs 0 0 (MQ below (va_Ql (fun (r : Int64) (u : mS) => post r u.1 u.2.1 u.2.2.1 u.2.2.2.1 u.2.2.2.2) (fxC (mW D h0 ad cI cL)) A) args s 0 0 A) (F0 m 0 ls []) := by
  obtain ⟨hx, hb, hr, hml, hown, hts, hlocks, hK, hN, hD⟩ := id C0
  intro I J cn cm so a1 h H locs ls hP hS hl
  replace h : (∃ k, wMlinkSet_5 post  k I J cn cm so a1 0 0) := h
  refine lv_lconst (v := 0) hx hb dXM_linkSet_0 (by decide) ?_
  refine lv_lstore_n (lv' := [(3, .long 0), (0, .ref h0), (1, .long a1)]) hx hb dXM_linkSet_1 rfl hl (by decide) rfl (fun ls hl => ?_)
  refine lv_iconst (v := 0) hx hb dXM_linkSet_2 (by decide) ?_
  refine lv_istore (lv' := [(5, .int 0), (3, .long 0), (0, .ref h0), (1, .long a1)]) hx hb dXM_linkSet_3 hl (by decide) rfl (fun ls hl => ?_)
  obtain ⟨k, h⟩ := h
  exact sMlinkSet_5  C0  k I J cn cm so a1 0 0 h H locs ls hP hS (lv_sub hl [2, 3, 1, 0] rfl)
set_option maxRecDepth 100000 in
set_option maxHeartbeats 4000000 in
theorem cMlinkSet {l : Launch} {D : va_G} {A : Nat → Prop} {h0 : Nat} {ad : Nat → Nat} {cI cL : ClassId} (hD : mDs A h0 ad cI cL) {post : Int64 → (Nat → Nat → Int32) → (Nat → Nat → Int64) → Int32 → Int64 → Int32 → Prop} {I : Nat → Nat → Int32} {J : Nat → Nat → Int64} {cn : Int32} {cm : Int64} {so : Int32} {a1 : Int64} (h : wMlinkSet post I J cn cm so a1) : Met l yXM_linkSet (.code yXM_linkSet cXM_linkSet 7 (some .long) :: lg_tbl) ({ frames := 1, cells := 0, slots := 0, locals := 24 } : Room) (va_Pc [.ref h0, .long a1] (fxB (mW D h0 ad cI cL (I, J, cn, cm, so)) D vwCl (mTy cI cL))) (va_Ql (fun (r : Int64) (u : mS) => post r u.1 u.2.1 u.2.2.1 u.2.2.2.1 u.2.2.2.2) (fxC (mW D h0 ad cI cL)) A) 0 0 A := by
  refine fx_start (by decide +kernel) (Nat.le_of_ble_eq_true rfl) ?_
  intro p e s m below meth c ls hx hb hr hml hown hts hlocks hnm hB hl
  exact sMlinkSet_in ⟨hx, hb, hr, hml, hown, hts, hlocks, hB.2.1, hB.2.2, hD⟩ I J cn cm so a1 h _ _ ls hB.1 va_S.rf hl
noncomputable def wMbring_9 (post : (Nat → Nat → Int32) → (Nat → Nat → Int64) → Int32 → Int64 → Int32 → Prop) (n : Nat) : (Nat → Nat → Int32) → (Nat → Nat → Int64) → Int32 → Int64 → Int32 → Int32 → Int64 → Int32 → Prop := Nat.rec (motive := fun _ => (Nat → Nat → Int32) → (Nat → Nat → Int64) → Int32 → Int64 → Int32 → Int32 → Int64 → Int32 → Prop) (fun _ _ _ _ _ _ _ _ => False) (fun _ K9 I J cn cm so v1 v2 v4 => ((so ≤ v4 → (post I J cn cm so)) ∧ (¬ so ≤ v4 → (vp_in v4 40 ∧ (wMbecome (fun I_4 J_4 cn_4 cm_4 so_4 => (wMcome (fun r5 I_5 J_5 cn_5 cm_5 so_5 => (wMsort (fun I_6 J_6 cn_6 cm_6 so_6 => (K9 I_6 J_6 cn_6 cm_6 so_6 v1 v2 (v4 + 1))) I_5 J_5 cn_5 cm_5 so_5 v2 1)) I_4 J_4 cn_4 cm_4 so_4 v1)) I J cn cm so (I 10 (Int32.toNatClampNeg v4))))))) n
def wMbring (post : (Nat → Nat → Int32) → (Nat → Nat → Int64) → Int32 → Int64 → Int32 → Prop) (I : Nat → Nat → Int32) (J : Nat → Nat → Int64) (cn : Int32) (cm : Int64) (so : Int32) (a1 : Int32) (a2 : Int64) : Prop := (wMsort (fun I_1 J_1 cn_1 cm_1 so_1 => (∃ k, wMbring_9 post  k I_1 J_1 cn_1 cm_1 so_1 a1 a2 0)) I J cn cm so a2 1)
set_option maxRecDepth 100000 in
set_option maxHeartbeats 4000000 in
theorem sMbring_9 {p : Program} {l : Launch} {e : Env} {s : State} {m : MethodId} {args : Array Value} {below : List Frame} {meth : Method} {c : Code} {D : va_G} {A : Nat → Prop} {h0 : Nat} {ad : Nat → Nat} {cI cL : ClassId} {post : (Nat → Nat → Int32) → (Nat → Nat → Int64) → Int32 → Int64 → Int32 → Prop} (C0 : mCx p s m args meth c D A h0 ad cI cL cXM_bring 5 none) : ∀ (n : Nat) (I : Nat → Nat → Int32) (J : Nat → Nat → Int64) (cn : Int32) (cm : Int64) (so : Int32) (v1 : Int32) (v2 : Int64) (v4 : Int32), wMbring_9 post  n I J cn cm so v1 v2 v4 → ∀ (H : Heap) (locs : List Loc) (ls : Array Slot), mW D h0 ad cI cL (I, J, cn, cm, so) H → va_S A s.heap H locs → lv_has ls 5 [(0, .ref h0), (1, .int v1), (2, .long v2), (4, .int v4)] → W p l e ({ frames := 5, cells := 0, slots := 0, locals := 121 } : Room) s m args below meth c H locs 0 0 (MQ below (va_Qv (fun (u : mS) => post u.1 u.2.1 u.2.2.1 u.2.2.2.1 u.2.2.2.2) (fxC (mW D h0 ad cI cL)) A) args s 0 0 A) (F0 m 9 ls []) := by
  obtain ⟨hx, hb, hr, hml, hown, hts, hlocks, hK, hN, hD⟩ := id C0
  intro n
  induction n with
  | zero => exact fun _ _ _ _ _ _ _ _ h => h.elim
  | succ n hK9 =>
    intro I J cn cm so v1 v2 v4 h H locs ls hP hS hl
    replace h : ((so ≤ v4 → (post I J cn cm so)) ∧ (¬ so ≤ v4 → (vp_in v4 40 ∧ (wMbecome (fun I_4 J_4 cn_4 cm_4 so_4 => (wMcome (fun r5 I_5 J_5 cn_5 cm_5 so_5 => (wMsort (fun I_6 J_6 cn_6 cm_6 so_6 => ((wMbring_9 post  n) I_6 J_6 cn_6 cm_6 so_6 v1 v2 (v4 + 1))) I_5 J_5 cn_5 cm_5 so_5 v2 1)) I_4 J_4 cn_4 cm_4 so_4 v1)) I J cn cm so (I 10 (Int32.toNatClampNeg v4)))))) := h
    refine lv_iload hx hb dXM_bring_9 (lv_at hl 3 rfl) ?_
    refine lv_aload_n hx hb dXM_bring_11 rfl (lv_at hl 0 rfl) ?_
    refine mg_sorted hx hb hown hts hK hP dXM_bring_12 ?_
    refine lv_icmp_ge (tgt := 47) hx hb dXM_bring_15 (by decide) (fun c2 => ?_) (fun c2 => ?_)
    · replace h := h.1 c2
      exact W.vret hx hb hr (fun t ht hW => ⟨⟨(I, J, cn, cm, so), rfl, h, by rw [fxC, ht]; exact hP⟩, hS.F ht⟩) hS.2.2 dXM_bring_47 hlocks
    · replace h := h.2 c2
      refine lv_aload_n hx hb dXM_bring_18 rfl (lv_at hl 0 rfl) ?_
      refine lv_aload_n hx hb dXM_bring_19 rfl (lv_at hl 0 rfl) ?_
      refine mg_order hx hb hown hts hK hP dXM_bring_20 ?_
      refine lv_iload hx hb dXM_bring_23 (lv_at hl 3 rfl) ?_
      obtain ⟨h3, h⟩ := h
      refine ma_18 hx hb hK hP h3 dXM_bring_25 ?_
      refine va_callv (va_runV (As := [.int (I 10 (Int32.toNatClampNeg v4))]) (rest := []) ⟨hx, hb, hml, hown, hts⟩ (cMbecome hD h) (fx_cwV 1 hts gw_M_104 hdXM_become ⟨Nat.le_of_ble_eq_true rfl, Nat.le_of_ble_eq_true rfl⟩) (fx_preV (m_recv hK hP) hP hK hN) rfl rfl hl.1 rfl (lv_room (Nat.le_of_ble_eq_true rfl)) dXM_bring_26 ⟨Nat.le_of_ble_eq_true rfl, Nat.le_of_ble_eq_true rfl⟩) hS (fun _ _ q => q) (fun _ q => q) (fun u t H locs ht hvm h hP hz hk hS => ?_)
      rw [fxC, ht] at hP
      obtain ⟨I_4, J_4, cn_4, cm_4, so_4⟩ := u
      dsimp only at h
      refine lv_aload_n hx hb dXM_bring_29 rfl (lv_at hl 0 rfl) ?_
      refine lv_iload_n hx hb dXM_bring_30 rfl (lv_at hl 1 rfl) ?_
      refine va_calli (va_runV (As := [.int v1]) (rest := []) ⟨hx, hb, hml, hown, hts⟩ (cMcome hD h) (fx_cwV 1 hts gw_M_145 hdXM_come ⟨Nat.le_of_ble_eq_true rfl, Nat.le_of_ble_eq_true rfl⟩) (fx_preV (m_recv hK hP) hP hK hN) rfl rfl hl.1 rfl (lv_room (Nat.le_of_ble_eq_true rfl)) dXM_bring_31 ⟨Nat.le_of_ble_eq_true rfl, Nat.le_of_ble_eq_true rfl⟩) hS (fun _ _ q => q) (fun _ q => q) (fun r5 u t H locs ht hvm h hP hz hk hS => ?_)
      rw [fxC, ht] at hP
      obtain ⟨I_5, J_5, cn_5, cm_5, so_5⟩ := u
      dsimp only at h
      refine lv_pop hx hb dXM_bring_34 rfl ?_
      refine lv_aload_n hx hb dXM_bring_35 rfl (lv_at hl 0 rfl) ?_
      refine lv_lload_n hx hb dXM_bring_36 rfl (lv_at hl 2 rfl) ?_
      refine lv_iconst (v := 1) hx hb dXM_bring_37 (by decide) ?_
      refine va_callv (va_runV (As := [.long v2, .int 1]) (rest := []) ⟨hx, hb, hml, hown, hts⟩ (cMsort hD h) (fx_cwV 2 hts gw_M_153 hdXM_sort ⟨Nat.le_of_ble_eq_true rfl, Nat.le_of_ble_eq_true rfl⟩) (fx_preV (m_recv hK hP) hP hK hN) rfl rfl hl.1 rfl (lv_room (Nat.le_of_ble_eq_true rfl)) dXM_bring_38 ⟨Nat.le_of_ble_eq_true rfl, Nat.le_of_ble_eq_true rfl⟩) hS (fun _ _ q => q) (fun _ q => q) (fun u t H locs ht hvm h hP hz hk hS => ?_)
      rw [fxC, ht] at hP
      obtain ⟨I_6, J_6, cn_6, cm_6, so_6⟩ := u
      dsimp only at h
      refine lv_iinc (v := v4 + 1) (lv' := [(4, .int (v4 + 1)), (0, .ref h0), (1, .int v1), (2, .long v2)]) hx hb dXM_bring_41 hl (k := 3) rfl rfl (by decide) rfl (fun ls hl => ?_)
      refine lv_goto (tgt := 9) hx hb dXM_bring_44 (by decide) ?_
      exact hK9 I_6 J_6 cn_6 cm_6 so_6 v1 v2 (v4 + 1) h H locs ls hP hS (lv_sub hl [1, 2, 3, 0] rfl)
set_option maxRecDepth 100000 in
set_option maxHeartbeats 4000000 in
theorem sMbring_in {p : Program} {l : Launch} {e : Env} {s : State} {m : MethodId} {args : Array Value} {below : List Frame} {meth : Method} {c : Code} {D : va_G} {A : Nat → Prop} {h0 : Nat} {ad : Nat → Nat} {cI cL : ClassId} {post : (Nat → Nat → Int32) → (Nat → Nat → Int64) → Int32 → Int64 → Int32 → Prop} (C0 : mCx p s m args meth c D A h0 ad cI cL cXM_bring 5 none) : ∀ (I : Nat → Nat → Int32) (J : Nat → Nat → Int64) (cn : Int32) (cm : Int64) (so : Int32) (a1 : Int32) (a2 : Int64), wMbring post I J cn cm so a1 a2 → ∀ (H : Heap) (locs : List Loc) (ls : Array Slot), mW D h0 ad cI cL (I, J, cn, cm, so) H → va_S A s.heap H locs → lv_has ls 5 [(0, .ref h0), (1, .int a1), (2, .long a2)] → W p l e ({ frames := 5, cells := 0, slots := 0, locals := 121 } : Room) s m args below meth c H locs 0 0 (MQ below (va_Qv (fun (u : mS) => post u.1 u.2.1 u.2.2.1 u.2.2.2.1 u.2.2.2.2) (fxC (mW D h0 ad cI cL)) A) args s 0 0 A) (F0 m 0 ls []) := by
  obtain ⟨hx, hb, hr, hml, hown, hts, hlocks, hK, hN, hD⟩ := id C0
  intro I J cn cm so a1 a2 h H locs ls hP hS hl
  replace h : (wMsort (fun I_1 J_1 cn_1 cm_1 so_1 => (∃ k, wMbring_9 post  k I_1 J_1 cn_1 cm_1 so_1 a1 a2 0)) I J cn cm so a2 1) := h
  refine lv_aload_n hx hb dXM_bring_0 rfl (lv_at hl 0 rfl) ?_
  refine lv_lload_n hx hb dXM_bring_1 rfl (lv_at hl 2 rfl) ?_
  refine lv_iconst (v := 1) hx hb dXM_bring_2 (by decide) ?_
  refine va_callv (va_runV (As := [.long a2, .int 1]) (rest := []) ⟨hx, hb, hml, hown, hts⟩ (cMsort hD h) (fx_cwV 2 hts gw_M_153 hdXM_sort ⟨Nat.le_of_ble_eq_true rfl, Nat.le_of_ble_eq_true rfl⟩) (fx_preV (m_recv hK hP) hP hK hN) rfl rfl hl.1 rfl (lv_room (Nat.le_of_ble_eq_true rfl)) dXM_bring_3 ⟨Nat.le_of_ble_eq_true rfl, Nat.le_of_ble_eq_true rfl⟩) hS (fun _ _ q => q) (fun _ q => q) (fun u t H locs ht hvm h hP hz hk hS => ?_)
  rw [fxC, ht] at hP
  obtain ⟨I_1, J_1, cn_1, cm_1, so_1⟩ := u
  dsimp only at h
  refine lv_iconst (v := 0) hx hb dXM_bring_6 (by decide) ?_
  refine lv_istore (lv' := [(4, .int 0), (0, .ref h0), (1, .int a1), (2, .long a2)]) hx hb dXM_bring_7 hl (by decide) rfl (fun ls hl => ?_)
  obtain ⟨k, h⟩ := h
  exact sMbring_9  C0  k I_1 J_1 cn_1 cm_1 so_1 a1 a2 0 h H locs ls hP hS (lv_sub hl [1, 2, 3, 0] rfl)
set_option maxRecDepth 100000 in
set_option maxHeartbeats 4000000 in
theorem cMbring {l : Launch} {D : va_G} {A : Nat → Prop} {h0 : Nat} {ad : Nat → Nat} {cI cL : ClassId} (hD : mDs A h0 ad cI cL) {post : (Nat → Nat → Int32) → (Nat → Nat → Int64) → Int32 → Int64 → Int32 → Prop} {I : Nat → Nat → Int32} {J : Nat → Nat → Int64} {cn : Int32} {cm : Int64} {so : Int32} {a1 : Int32} {a2 : Int64} (h : wMbring post I J cn cm so a1 a2) : Met l yXM_bring (.code yXM_bring cXM_bring 5 none :: lg_tbl) ({ frames := 5, cells := 0, slots := 0, locals := 121 } : Room) (va_Pc [.ref h0, .int a1, .long a2] (fxB (mW D h0 ad cI cL (I, J, cn, cm, so)) D vwCl (mTy cI cL))) (va_Qv (fun (u : mS) => post u.1 u.2.1 u.2.2.1 u.2.2.2.1 u.2.2.2.2) (fxC (mW D h0 ad cI cL)) A) 0 0 A := by
  refine fx_start (by decide +kernel) (Nat.le_of_ble_eq_true rfl) ?_
  intro p e s m below meth c ls hx hb hr hml hown hts hlocks hnm hB hl
  exact sMbring_in ⟨hx, hb, hr, hml, hown, hts, hlocks, hB.2.1, hB.2.2, hD⟩ I J cn cm so a1 a2 h _ _ ls hB.1 va_S.rf hl
