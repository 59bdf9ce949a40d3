noncomputable def wMlinksHeld_4 (post : Int32 → (Nat → Nat → Int32) → (Nat → Nat → Int64) → Int32 → Int64 → Int32 → Prop) (n : Nat) : (Nat → Nat → Int32) → (Nat → Nat → Int64) → Int32 → Int64 → Int32 → Int32 → Int32 → Int32 → Prop := Nat.rec (motive := fun _ => (Nat → Nat → Int32) → (Nat → Nat → Int64) → Int32 → Int64 → Int32 → Int32 → Int32 → Int32 → Prop) (fun _ _ _ _ _ _ _ _ => False) (fun _ K4 I J cn cm so v1 v2 v3 => (vp_in 4 5 ∧ (((I 9 (Int32.toNatClampNeg 4)) ≤ v3 → (narrow .boolean (.int v2) = .int v2 ∧ post v2 I J cn cm so)) ∧ (¬ (I 9 (Int32.toNatClampNeg 4)) ≤ v3 → ((v2 = 0 → (K4 I J cn cm so v1 0 (v3 + 1))) ∧ (¬ v2 = 0 → (vp_in v1 4 ∧ (vp_in v3 4 ∧ (wMfind (fun r6 I_6 J_6 cn_6 cm_6 so_6 => (wMin (fun r7 I_7 J_7 cn_7 cm_7 so_7 => ((r7 = 0 → (K4 I_7 J_7 cn_7 cm_7 so_7 v1 0 (v3 + 1))) ∧ (¬ r7 = 0 → (K4 I_7 J_7 cn_7 cm_7 so_7 v1 1 (v3 + 1))))) I_6 J_6 cn_6 cm_6 so_6 (J 3 (Int32.toNatClampNeg v1)) r6)) I J cn cm so (J 7 (Int32.toNatClampNeg v3))))))))))) n
def wMlinksHeld (post : Int32 → (Nat → Nat → Int32) → (Nat → Nat → Int64) → Int32 → Int64 → Int32 → Prop) (I : Nat → Nat → Int32) (J : Nat → Nat → Int64) (cn : Int32) (cm : Int64) (so : Int32) (a1 : Int32) : Prop := (∃ k, wMlinksHeld_4 post  k I J cn cm so a1 1 0)
set_option maxRecDepth 100000 in
set_option maxHeartbeats 4000000 in
theorem sMlinksHeld_4 {p : Program} {l : Launch} {e : Env} {s : State} {m : MethodId} {args : Array Value} {below : List Frame} {meth : Method} {c : Code} {D : va_G} {A : Nat → Prop} {h0 : Nat} {ad : Nat → Nat} {cI cL : ClassId} {post : Int32 → (Nat → Nat → Int32) → (Nat → Nat → Int64) → Int32 → Int64 → Int32 → Prop} (C0 : mCx p s m args meth c D A h0 ad cI cL cXM_linksHeld 4 (some .boolean)) : ∀ (n : Nat) (I : Nat → Nat → Int32) (J : Nat → Nat → Int64) (cn : Int32) (cm : Int64) (so : Int32) (v1 : Int32) (v2 : Int32) (v3 : Int32), wMlinksHeld_4 post  n I J cn cm so v1 v2 v3 → ∀ (H : Heap) (locs : List Loc) (ls : Array Slot), mW D h0 ad cI cL (I, J, cn, cm, so) H → va_S A s.heap H locs → lv_has ls 4 [(0, .ref h0), (1, .int v1), (2, .int v2), (3, .int v3)] → W p l e ({ frames := 1, cells := 0, slots := 0, locals := 24 } : Room) s m args below meth c H locs 0 0 (MQ below (va_Qi (fun (r : Int32) (u : mS) => post r u.1 u.2.1 u.2.2.1 u.2.2.2.1 u.2.2.2.2) (fxC (mW D h0 ad cI cL)) A) args s 0 0 A) (F0 m 4 ls []) := by
  obtain ⟨hx, hb, hr, hml, hown, hts, hlocks, hK, hN, hD⟩ := id C0
  intro n
  induction n with
  | zero => exact fun _ _ _ _ _ _ _ _ h => h.elim
  | succ n hK4 =>
    intro I J cn cm so v1 v2 v3 h H locs ls hP hS hl
    replace h : (vp_in 4 5 ∧ (((I 9 (Int32.toNatClampNeg 4)) ≤ v3 → (narrow .boolean (.int v2) = .int v2 ∧ post v2 I J cn cm so)) ∧ (¬ (I 9 (Int32.toNatClampNeg 4)) ≤ v3 → ((v2 = 0 → ((wMlinksHeld_4 post  n) I J cn cm so v1 0 (v3 + 1))) ∧ (¬ v2 = 0 → (vp_in v1 4 ∧ (vp_in v3 4 ∧ (wMfind (fun r6 I_6 J_6 cn_6 cm_6 so_6 => (wMin (fun r7 I_7 J_7 cn_7 cm_7 so_7 => ((r7 = 0 → ((wMlinksHeld_4 post  n) I_7 J_7 cn_7 cm_7 so_7 v1 0 (v3 + 1))) ∧ (¬ r7 = 0 → ((wMlinksHeld_4 post  n) I_7 J_7 cn_7 cm_7 so_7 v1 1 (v3 + 1))))) I_6 J_6 cn_6 cm_6 so_6 (J 3 (Int32.toNatClampNeg v1)) r6)) I J cn cm so (J 7 (Int32.toNatClampNeg v3)))))))))) := h
    refine lv_iload_n hx hb dXM_linksHeld_4 rfl (lv_at hl 3 rfl) ?_
    refine lv_aload_n hx hb dXM_linksHeld_5 rfl (lv_at hl 0 rfl) ?_
    refine mg_numbers hx hb hown hts hK hP dXM_linksHeld_6 ?_
    refine lv_iconst (v := 4) hx hb dXM_linksHeld_9 (by decide) ?_
    obtain ⟨h1, h⟩ := h
    refine ma_16 hx hb hK hP h1 dXM_linksHeld_10 ?_
    refine lv_icmp_ge (tgt := 52) hx hb dXM_linksHeld_11 (by decide) (fun c2 => ?_) (fun c2 => ?_)
    · replace h := h.1 c2
      refine lv_iload_n hx hb dXM_linksHeld_52 rfl (lv_at hl 2 rfl) ?_
      obtain ⟨hz, h⟩ := h
      exact W.zret hx hb hr hz (fun t ht hW => ⟨⟨_, (I, J, cn, cm, so), rfl, h, by rw [fxC, ht]; exact hP⟩, hS.F ht⟩) hS.2.2 dXM_linksHeld_53 hlocks
    · replace h := h.2 c2
      refine lv_iload_n hx hb dXM_linksHeld_14 rfl (lv_at hl 2 rfl) ?_
      refine lv_if_eq (tgt := 44) hx hb dXM_linksHeld_15 (by decide) (fun c3 => ?_) (fun c3 => ?_)
      · replace h := h.1 c3
        refine lv_iconst (v := 0) hx hb dXM_linksHeld_44 (by decide) ?_
        refine lv_istore_n (lv' := [(2, .int 0), (0, .ref h0), (1, .int v1), (3, .int v3)]) hx hb dXM_linksHeld_45 rfl hl (by decide) rfl (fun ls hl => ?_)
        refine lv_iinc (v := v3 + 1) (lv' := [(3, .int (v3 + 1)), (2, .int 0), (0, .ref h0), (1, .int v1)]) hx hb dXM_linksHeld_46 hl (k := 3) rfl rfl (by decide) rfl (fun ls hl => ?_)
        refine lv_goto (tgt := 4) hx hb dXM_linksHeld_49 (by decide) ?_
        exact hK4 I J cn cm so v1 0 (v3 + 1) h H locs ls hP hS (lv_sub hl [2, 3, 1, 0] rfl)
      · replace h := h.2 c3
        refine lv_aload_n hx hb dXM_linksHeld_18 rfl (lv_at hl 0 rfl) ?_
        refine mg_holds hx hb hown hts hK hP dXM_linksHeld_19 ?_
        refine lv_iload_n hx hb dXM_linksHeld_22 rfl (lv_at hl 1 rfl) ?_
        obtain ⟨h4, h⟩ := h
        refine ma_9 hx hb hK hP h4 dXM_linksHeld_23 ?_
        refine lv_aload_n hx hb dXM_linksHeld_24 rfl (lv_at hl 0 rfl) ?_
        refine lv_aload_n hx hb dXM_linksHeld_25 rfl (lv_at hl 0 rfl) ?_
        refine mg_comingLink hx hb hown hts hK hP dXM_linksHeld_26 ?_
        refine lv_iload_n hx hb dXM_linksHeld_29 rfl (lv_at hl 3 rfl) ?_
        obtain ⟨h5, h⟩ := h
        refine ma_17 hx hb hK hP h5 dXM_linksHeld_30 ?_
        refine va_calli (va_runV (As := [.long (J 7 (Int32.toNatClampNeg v3))]) (rest := [.long (J 3 (Int32.toNatClampNeg v1))]) ⟨hx, hb, hml, hown, hts⟩ (cMfind hD h) (fx_cwV 1 hts gw_M_84 hdXM_find ⟨Nat.le_of_ble_eq_true rfl, Nat.le_of_ble_eq_true rfl⟩) (fx_preV (m_recv hK hP) hP hK hN) rfl rfl hl.1 rfl (lv_room (Nat.le_of_ble_eq_true rfl)) dXM_linksHeld_31 ⟨Nat.le_of_ble_eq_true rfl, Nat.le_of_ble_eq_true rfl⟩) hS (fun _ _ q => q) (fun _ q => q) (fun r6 u t H locs ht hvm h hP hz hk hS => ?_)
        rw [fxC, ht] at hP
        obtain ⟨I_6, J_6, cn_6, cm_6, so_6⟩ := u
        dsimp only at h
        refine va_calli (va_runS (As := [.long (J 3 (Int32.toNatClampNeg v1)), .int r6]) (rest := []) ⟨hx, hb, hml, hown, hts⟩ (cMin hD h) (fx_cwS 2 hts gw_M_88 hdXM_in ⟨Nat.le_of_ble_eq_true rfl, Nat.le_of_ble_eq_true rfl⟩) (fx_preS hP hK hN) rfl rfl hl.1 rfl (lv_room (Nat.le_of_ble_eq_true rfl)) dXM_linksHeld_34 ⟨Nat.le_of_ble_eq_true rfl, Nat.le_of_ble_eq_true rfl⟩) hS (fun _ _ q => q) (fun _ q => q) (fun r7 u t H locs ht hvm h hP hz hk hS => ?_)
        rw [fxC, ht] at hP
        obtain ⟨I_7, J_7, cn_7, cm_7, so_7⟩ := u
        dsimp only at h
        refine lv_if_eq (tgt := 44) hx hb dXM_linksHeld_37 (by decide) (fun c8 => ?_) (fun c8 => ?_)
        · replace h := h.1 c8
          refine lv_iconst (v := 0) hx hb dXM_linksHeld_44 (by decide) ?_
          refine lv_istore_n (lv' := [(2, .int 0), (0, .ref h0), (1, .int v1), (3, .int v3)]) hx hb dXM_linksHeld_45 rfl hl (by decide) rfl (fun ls hl => ?_)
          refine lv_iinc (v := v3 + 1) (lv' := [(3, .int (v3 + 1)), (2, .int 0), (0, .ref h0), (1, .int v1)]) hx hb dXM_linksHeld_46 hl (k := 3) rfl rfl (by decide) rfl (fun ls hl => ?_)
          refine lv_goto (tgt := 4) hx hb dXM_linksHeld_49 (by decide) ?_
          exact hK4 I_7 J_7 cn_7 cm_7 so_7 v1 0 (v3 + 1) h H locs ls hP hS (lv_sub hl [2, 3, 1, 0] rfl)
        · replace h := h.2 c8
          refine lv_iconst (v := 1) hx hb dXM_linksHeld_40 (by decide) ?_
          refine lv_goto (tgt := 45) hx hb dXM_linksHeld_41 (by decide) ?_
          refine lv_istore_n (lv' := [(2, .int 1), (0, .ref h0), (1, .int v1), (3, .int v3)]) hx hb dXM_linksHeld_45 rfl hl (by decide) rfl (fun ls hl => ?_)
          refine lv_iinc (v := v3 + 1) (lv' := [(3, .int (v3 + 1)), (2, .int 1), (0, .ref h0), (1, .int v1)]) hx hb dXM_linksHeld_46 hl (k := 3) rfl rfl (by decide) rfl (fun ls hl => ?_)
          refine lv_goto (tgt := 4) hx hb dXM_linksHeld_49 (by decide) ?_
          exact hK4 I_7 J_7 cn_7 cm_7 so_7 v1 1 (v3 + 1) h H locs ls hP hS (lv_sub hl [2, 3, 1, 0] rfl)
set_option maxRecDepth 100000 in
set_option maxHeartbeats 4000000 in
theorem sMlinksHeld_in {p : Program} {l : Launch} {e : Env} {s : State} {m : MethodId} {args : Array Value} {below : List Frame} {meth : Method} {c : Code} {D : va_G} {A : Nat → Prop} {h0 : Nat} {ad : Nat → Nat} {cI cL : ClassId} {post : Int32 → (Nat → Nat → Int32) → (Nat → Nat → Int64) → Int32 → Int64 → Int32 → Prop} (C0 : mCx p s m args meth c D A h0 ad cI cL cXM_linksHeld 4 (some .boolean)) : ∀ (I : Nat → Nat → Int32) (J : Nat → Nat → Int64) (cn : Int32) (cm : Int64) (so : Int32) (a1 : Int32), wMlinksHeld post I J cn cm so a1 → ∀ (H : Heap) (locs : List Loc) (ls : Array Slot), mW D h0 ad cI cL (I, J, cn, cm, so) H → va_S A s.heap H locs → lv_has ls 4 [(0, .ref h0), (1, .int a1)] → W p l e ({ frames := 1, cells := 0, slots := 0, locals := 24 } : Room) s m args below meth c H locs 0 0 (MQ below (va_Qi (fun (r : Int32) (u : mS) => post r u.1 u.2.1 u.2.2.1 u.2.2.2.1 u.2.2.2.2) (fxC (mW D h0 ad cI cL)) A) args s 0 0 A) (F0 m 0 ls []) := by
  obtain ⟨hx, hb, hr, hml, hown, hts, hlocks, hK, hN, hD⟩ := id C0
  intro I J cn cm so a1 h H locs ls hP hS hl
  replace h : (∃ k, wMlinksHeld_4 post  k I J cn cm so a1 1 0) := h
  refine lv_iconst (v := 1) hx hb dXM_linksHeld_0 (by decide) ?_
  refine lv_istore_n (lv' := [(2, .int 1), (0, .ref h0), (1, .int a1)]) hx hb dXM_linksHeld_1 rfl hl (by decide) rfl (fun ls hl => ?_)
  refine lv_iconst (v := 0) hx hb dXM_linksHeld_2 (by decide) ?_
  refine lv_istore_n (lv' := [(3, .int 0), (2, .int 1), (0, .ref h0), (1, .int a1)]) hx hb dXM_linksHeld_3 rfl hl (by decide) rfl (fun ls hl => ?_)
  obtain ⟨k, h⟩ := h
  exact sMlinksHeld_4  C0  k I J cn cm so a1 1 0 h H locs ls hP hS (lv_sub hl [2, 3, 1, 0] rfl)
set_option maxRecDepth 100000 in
set_option maxHeartbeats 4000000 in
theorem cMlinksHeld {l : Launch} {D : va_G} {A : Nat → Prop} {h0 : Nat} {ad : Nat → Nat} {cI cL : ClassId} (hD : mDs A h0 ad cI cL) {post : Int32 → (Nat → Nat → Int32) → (Nat → Nat → Int64) → Int32 → Int64 → Int32 → Prop} {I : Nat → Nat → Int32} {J : Nat → Nat → Int64} {cn : Int32} {cm : Int64} {so : Int32} {a1 : Int32} (h : wMlinksHeld post I J cn cm so a1) : Met l yXM_linksHeld (.code yXM_linksHeld cXM_linksHeld 4 (some .boolean) :: lg_tbl) ({ frames := 1, cells := 0, slots := 0, locals := 24 } : Room) (va_Pc [.ref h0, .int a1] (fxB (mW D h0 ad cI cL (I, J, cn, cm, so)) D vwCl (mTy cI cL))) (va_Qi (fun (r : Int32) (u : mS) => post r u.1 u.2.1 u.2.2.1 u.2.2.2.1 u.2.2.2.2) (fxC (mW D h0 ad cI cL)) A) 0 0 A := by
  refine fx_start (by decide +kernel) (Nat.le_of_ble_eq_true rfl) ?_
  intro p e s m below meth c ls hx hb hr hml hown hts hlocks hnm hB hl
  exact sMlinksHeld_in ⟨hx, hb, hr, hml, hown, hts, hlocks, hB.2.1, hB.2.2, hD⟩ I J cn cm so a1 h _ _ ls hB.1 va_S.rf hl
noncomputable def wMpastOf_4 (post : Int64 → (Nat → Nat → Int32) → (Nat → Nat → Int64) → Int32 → Int64 → Int32 → Prop) (n : Nat) : (Nat → Nat → Int32) → (Nat → Nat → Int64) → Int32 → Int64 → Int32 → Int64 → Int32 → Prop := Nat.rec (motive := fun _ => (Nat → Nat → Int32) → (Nat → Nat → Int64) → Int32 → Int64 → Int32 → Int64 → Int32 → Prop) (fun _ _ _ _ _ _ _ => False) (fun _ K4 I J cn cm so v1 v3 => (vp_in 4 5 ∧ (((I 9 (Int32.toNatClampNeg 4)) ≤ v3 → (post v1 I J cn cm so)) ∧ (¬ (I 9 (Int32.toNatClampNeg 4)) ≤ v3 → (vp_in v3 4 ∧ (wMfind (fun r4 I_4 J_4 cn_4 cm_4 so_4 => (vp_in r4 40 ∧ ∀ x6, x6 = (v1 ||| (J_4 2 (Int32.toNatClampNeg r4))) ||| (hj_shl 1 r4) → (K4 I_4 J_4 cn_4 cm_4 so_4 x6 (v3 + 1)))) I J cn cm so (J 7 (Int32.toNatClampNeg v3)))))))) n
def wMpastOf (post : Int64 → (Nat → Nat → Int32) → (Nat → Nat → Int64) → Int32 → Int64 → Int32 → Prop) (I : Nat → Nat → Int32) (J : Nat → Nat → Int64) (cn : Int32) (cm : Int64) (so : Int32) : Prop := (∃ k, wMpastOf_4 post  k I J cn cm so 0 0)
set_option maxRecDepth 100000 in
set_option maxHeartbeats 4000000 in
theorem sMpastOf_4 {p : Program} {l : Launch} {e : Env} {s : State} {m : MethodId} {args : Array Value} {below : List Frame} {meth : Method} {c : Code} {D : va_G} {A : Nat → Prop} {h0 : Nat} {ad : Nat → Nat} {cI cL : ClassId} {post : Int64 → (Nat → Nat → Int32) → (Nat → Nat → Int64) → Int32 → Int64 → Int32 → Prop} (C0 : mCx p s m args meth c D A h0 ad cI cL cXM_pastOf 5 (some .long)) : ∀ (n : Nat) (I : Nat → Nat → Int32) (J : Nat → Nat → Int64) (cn : Int32) (cm : Int64) (so : Int32) (v1 : Int64) (v3 : Int32), wMpastOf_4 post  n I J cn cm so v1 v3 → ∀ (H : Heap) (locs : List Loc) (ls : Array Slot), mW D h0 ad cI cL (I, J, cn, cm, so) H → va_S A s.heap H locs → lv_has ls 5 [(0, .ref h0), (1, .long v1), (3, .int v3)] → W p l e ({ frames := 1, cells := 0, slots := 0, locals := 24 } : Room) s m args below meth c H locs 0 0 (MQ below (va_Ql (fun (r : Int64) (u : mS) => post r u.1 u.2.1 u.2.2.1 u.2.2.2.1 u.2.2.2.2) (fxC (mW D h0 ad cI cL)) A) args s 0 0 A) (F0 m 4 ls []) := by
  obtain ⟨hx, hb, hr, hml, hown, hts, hlocks, hK, hN, hD⟩ := id C0
  intro n
  induction n with
  | zero => exact fun _ _ _ _ _ _ _ h => h.elim
  | succ n hK4 =>
    intro I J cn cm so v1 v3 h H locs ls hP hS hl
    replace h : (vp_in 4 5 ∧ (((I 9 (Int32.toNatClampNeg 4)) ≤ v3 → (post v1 I J cn cm so)) ∧ (¬ (I 9 (Int32.toNatClampNeg 4)) ≤ v3 → (vp_in v3 4 ∧ (wMfind (fun r4 I_4 J_4 cn_4 cm_4 so_4 => (vp_in r4 40 ∧ ∀ x6, x6 = (v1 ||| (J_4 2 (Int32.toNatClampNeg r4))) ||| (hj_shl 1 r4) → ((wMpastOf_4 post  n) I_4 J_4 cn_4 cm_4 so_4 x6 (v3 + 1)))) I J cn cm so (J 7 (Int32.toNatClampNeg v3))))))) := h
    refine lv_iload_n hx hb dXM_pastOf_4 rfl (lv_at hl 2 rfl) ?_
    refine lv_aload_n hx hb dXM_pastOf_5 rfl (lv_at hl 0 rfl) ?_
    refine mg_numbers hx hb hown hts hK hP dXM_pastOf_6 ?_
    refine lv_iconst (v := 4) hx hb dXM_pastOf_9 (by decide) ?_
    obtain ⟨h1, h⟩ := h
    refine ma_16 hx hb hK hP h1 dXM_pastOf_10 ?_
    refine lv_icmp_ge (tgt := 47) hx hb dXM_pastOf_11 (by decide) (fun c2 => ?_) (fun c2 => ?_)
    · replace h := h.1 c2
      refine lv_lload_n hx hb dXM_pastOf_47 rfl (lv_at hl 1 rfl) ?_
      exact W.lret hx hb hr (fun t ht hW => ⟨⟨_, (I, J, cn, cm, so), rfl, h, by rw [fxC, ht]; exact hP⟩, hS.F ht⟩) hS.2.2 dXM_pastOf_48 hlocks
    · replace h := h.2 c2
      refine lv_aload_n hx hb dXM_pastOf_14 rfl (lv_at hl 0 rfl) ?_
      refine lv_aload_n hx hb dXM_pastOf_15 rfl (lv_at hl 0 rfl) ?_
      refine mg_comingLink hx hb hown hts hK hP dXM_pastOf_16 ?_
      refine lv_iload_n hx hb dXM_pastOf_19 rfl (lv_at hl 2 rfl) ?_
      obtain ⟨h3, h⟩ := h
      refine ma_17 hx hb hK hP h3 dXM_pastOf_20 ?_
      refine va_calli (va_runV (As := [.long (J 7 (Int32.toNatClampNeg v3))]) (rest := []) ⟨hx, hb, hml, hown, hts⟩ (cMfind hD h) (fx_cwV 1 hts gw_M_84 hdXM_find ⟨Nat.le_of_ble_eq_true rfl, Nat.le_of_ble_eq_true rfl⟩) (fx_preV (m_recv hK hP) hP hK hN) rfl rfl hl.1 rfl (lv_room (Nat.le_of_ble_eq_true rfl)) dXM_pastOf_21 ⟨Nat.le_of_ble_eq_true rfl, Nat.le_of_ble_eq_true rfl⟩) hS (fun _ _ q => q) (fun _ q => q) (fun r4 u t H locs ht hvm h hP hz hk hS => ?_)
      rw [fxC, ht] at hP
      obtain ⟨I_4, J_4, cn_4, cm_4, so_4⟩ := u
      dsimp only at h
      refine lv_istore (lv' := [(4, .int r4), (0, .ref h0), (1, .long v1), (3, .int v3)]) hx hb dXM_pastOf_24 hl (by decide) rfl (fun ls hl => ?_)
      refine lv_lload_n hx hb dXM_pastOf_26 rfl (lv_at hl 2 rfl) ?_
      refine lv_aload_n hx hb dXM_pastOf_27 rfl (lv_at hl 1 rfl) ?_
      refine mg_past hx hb hown hts hK hP dXM_pastOf_28 ?_
      refine lv_iload hx hb dXM_pastOf_31 (lv_at hl 0 rfl) ?_
      obtain ⟨h5, h⟩ := h
      refine ma_7 hx hb hK hP h5 dXM_pastOf_33 ?_
      refine lv_lor hx hb dXM_pastOf_34 ?_
      refine lv_lconst (v := 1) hx hb dXM_pastOf_35 (by decide) ?_
      refine lv_iload hx hb dXM_pastOf_36 (lv_at hl 0 rfl) ?_
      refine lv_lshl (v := hj_shl 1 r4) hx hb dXM_pastOf_38 rfl ?_
      refine lv_lor hx hb dXM_pastOf_39 ?_
      refine lv_topl (fun x6 ex6 => ?_)
      replace h := h x6 ex6
      refine lv_lstore_n (lv' := [(1, .long x6), (4, .int r4), (0, .ref h0), (3, .int v3)]) hx hb dXM_pastOf_40 rfl hl (by decide) rfl (fun ls hl => ?_)
      refine lv_iinc (v := v3 + 1) (lv' := [(3, .int (v3 + 1)), (1, .long x6), (4, .int r4), (0, .ref h0)]) hx hb dXM_pastOf_41 hl (k := 3) rfl rfl (by decide) rfl (fun ls hl => ?_)
      refine lv_goto (tgt := 4) hx hb dXM_pastOf_44 (by decide) ?_
      exact hK4 I_4 J_4 cn_4 cm_4 so_4 x6 (v3 + 1) h H locs ls hP hS (lv_sub hl [3, 1, 0] rfl)
set_option maxRecDepth 100000 in
set_option maxHeartbeats 4000000 in
theorem sMpastOf_in {p : Program} {l : Launch} {e : Env} {s : State} {m : MethodId} {args : Array Value} {below : List Frame} {meth : Method} {c : Code} {D : va_G} {A : Nat → Prop} {h0 : Nat} {ad : Nat → Nat} {cI cL : ClassId} {post : Int64 → (Nat → Nat → Int32) → (Nat → Nat → Int64) → Int32 → Int64 → Int32 → Prop} (C0 : mCx p s m args meth c D A h0 ad cI cL cXM_pastOf 5 (some .long)) : ∀ (I : Nat → Nat → Int32) (J : Nat → Nat → Int64) (cn : Int32) (cm : Int64) (so : Int32), wMpastOf post I J cn cm so → ∀ (H : Heap) (locs : List Loc) (ls : Array Slot), mW D h0 ad cI cL (I, J, cn, cm, so) H → va_S A s.heap H locs → lv_has ls 5 [(0, .ref h0)] → W p l e ({ frames := 1, cells := 0, slots := 0, locals := 24 } : Room) s m args below meth c H locs 0 0 (MQ below (va_Ql (fun (r : Int64) (u : mS) => post r u.1 u.2.1 u.2.2.1 u.2.2.2.1 u.2.2.2.2) (fxC (mW D h0 ad cI cL)) A) args s 0 0 A) (F0 m 0 ls []) := by
  obtain ⟨hx, hb, hr, hml, hown, hts, hlocks, hK, hN, hD⟩ := id C0
  intro I J cn cm so h H locs ls hP hS hl
  replace h : (∃ k, wMpastOf_4 post  k I J cn cm so 0 0) := h
  refine lv_lconst (v := 0) hx hb dXM_pastOf_0 (by decide) ?_
  refine lv_lstore_n (lv' := [(1, .long 0), (0, .ref h0)]) hx hb dXM_pastOf_1 rfl hl (by decide) rfl (fun ls hl => ?_)
  refine lv_iconst (v := 0) hx hb dXM_pastOf_2 (by decide) ?_
  refine lv_istore_n (lv' := [(3, .int 0), (1, .long 0), (0, .ref h0)]) hx hb dXM_pastOf_3 rfl hl (by decide) rfl (fun ls hl => ?_)
  obtain ⟨k, h⟩ := h
  exact sMpastOf_4  C0  k I J cn cm so 0 0 h H locs ls hP hS (lv_sub hl [2, 1, 0] rfl)
set_option maxRecDepth 100000 in
set_option maxHeartbeats 4000000 in
theorem cMpastOf {l : Launch} {D : va_G} {A : Nat → Prop} {h0 : Nat} {ad : Nat → Nat} {cI cL : ClassId} (hD : mDs A h0 ad cI cL) {post : Int64 → (Nat → Nat → Int32) → (Nat → Nat → Int64) → Int32 → Int64 → Int32 → Prop} {I : Nat → Nat → Int32} {J : Nat → Nat → Int64} {cn : Int32} {cm : Int64} {so : Int32} (h : wMpastOf post I J cn cm so) : Met l yXM_pastOf (.code yXM_pastOf cXM_pastOf 5 (some .long) :: lg_tbl) ({ frames := 1, cells := 0, slots := 0, locals := 24 } : Room) (va_Pc [.ref h0] (fxB (mW D h0 ad cI cL (I, J, cn, cm, so)) D vwCl (mTy cI cL))) (va_Ql (fun (r : Int64) (u : mS) => post r u.1 u.2.1 u.2.2.1 u.2.2.2.1 u.2.2.2.2) (fxC (mW D h0 ad cI cL)) A) 0 0 A := by
  refine fx_start (by decide +kernel) (Nat.le_of_ble_eq_true rfl) ?_
  intro p e s m below meth c ls hx hb hr hml hown hts hlocks hnm hB hl
  exact sMpastOf_in ⟨hx, hb, hr, hml, hown, hts, hlocks, hB.2.1, hB.2.2, hD⟩ I J cn cm so h _ _ ls hB.1 va_S.rf hl
def wMisRight_271 (post : Int32 → (Nat → Nat → Int32) → (Nat → Nat → Int64) → Int32 → Int64 → Int32 → Prop) (K97 : (Nat → Nat → Int32) → (Nat → Nat → Int64) → Int32 → Int64 → Int32 → Int64 → Int32 → Int32 → Prop) (I : Nat → Nat → Int32) (J : Nat → Nat → Int64) (cn : Int32) (cm : Int64) (so : Int32) (v1 : Int64) (v3 : Int32) (v4 : Int32) (v5 : Int32) (v6 : Int32) : Prop := ((v3 = 0 → (K97 I J cn cm so v1 0 (v4 + 1))) ∧ (¬ v3 = 0 → ((v5 = 0 → (K97 I J cn cm so v1 1 (v4 + 1))) ∧ (¬ v5 = 0 → ((v6 = 0 → (K97 I J cn cm so v1 0 (v4 + 1))) ∧ (¬ v6 = 0 → (K97 I J cn cm so v1 1 (v4 + 1))))))))
noncomputable def wMisRight_171 (post : Int32 → (Nat → Nat → Int32) → (Nat → Nat → Int64) → Int32 → Int64 → Int32 → Prop) (K97 : (Nat → Nat → Int32) → (Nat → Nat → Int64) → Int32 → Int64 → Int32 → Int64 → Int32 → Int32 → Prop) (n : Nat) : (Nat → Nat → Int32) → (Nat → Nat → Int64) → Int32 → Int64 → Int32 → Int64 → Int32 → Int32 → Int32 → Int32 → Int32 → Prop := Nat.rec (motive := fun _ => (Nat → Nat → Int32) → (Nat → Nat → Int64) → Int32 → Int64 → Int32 → Int64 → Int32 → Int32 → Int32 → Int32 → Int32 → Prop) (fun _ _ _ _ _ _ _ _ _ _ _ => False) (fun _ K171 I J cn cm so v1 v3 v4 v5 v6 v7 => ((cn ≤ v7 → (wMisRight_271 post K97 I J cn cm so v1 v3 v4 v5 v6)) ∧ (¬ cn ≤ v7 → ((v5 = 0 → (wMisRight_271 post K97 I J cn cm so v1 v3 v4 v5 v6)) ∧ (¬ v5 = 0 → ((¬ v6 = 0 → (K171 I J cn cm so v1 v3 v4 v5 1 (v7 + 1))) ∧ (v6 = 0 → (wMin (fun r28 I_28 J_28 cn_28 cm_28 so_28 => ((r28 = 0 → (K171 I_28 J_28 cn_28 cm_28 so_28 v1 v3 v4 v5 0 (v7 + 1))) ∧ (¬ r28 = 0 → (vp_in v7 40 ∧ ((¬ (I_28 1 (Int32.toNatClampNeg v7)) = 3 → (K171 I_28 J_28 cn_28 cm_28 so_28 v1 v3 v4 v5 0 (v7 + 1))) ∧ ((I_28 1 (Int32.toNatClampNeg v7)) = 3 → (vp_in v7 40 ∧ (vp_in 2 5 ∧ ((¬ (I_28 2 (Int32.toNatClampNeg v7)) = (I_28 9 (Int32.toNatClampNeg 2)) → (K171 I_28 J_28 cn_28 cm_28 so_28 v1 v3 v4 v5 0 (v7 + 1))) ∧ ((I_28 2 (Int32.toNatClampNeg v7)) = (I_28 9 (Int32.toNatClampNeg 2)) → (vp_in v7 40 ∧ (vp_in v4 40 ∧ ((¬ (I_28 0 (Int32.toNatClampNeg v7)) = (I_28 0 (Int32.toNatClampNeg v4)) → (K171 I_28 J_28 cn_28 cm_28 so_28 v1 v3 v4 v5 0 (v7 + 1))) ∧ ((I_28 0 (Int32.toNatClampNeg v7)) = (I_28 0 (Int32.toNatClampNeg v4)) → (vp_in v7 40 ∧ (wMin (fun r39 I_39 J_39 cn_39 cm_39 so_39 => ((r39 = 0 → (K171 I_39 J_39 cn_39 cm_39 so_39 v1 v3 v4 v5 0 (v7 + 1))) ∧ (¬ r39 = 0 → (K171 I_39 J_39 cn_39 cm_39 so_39 v1 v3 v4 v5 1 (v7 + 1))))) I_28 J_28 cn_28 cm_28 so_28 (J_28 2 (Int32.toNatClampNeg v7)) v4)))))))))))))))) I J cn cm so v1 v7)))))))) n
noncomputable def wMisRight_97 (post : Int32 → (Nat → Nat → Int32) → (Nat → Nat → Int64) → Int32 → Int64 → Int32 → Prop) (n : Nat) : (Nat → Nat → Int32) → (Nat → Nat → Int64) → Int32 → Int64 → Int32 → Int64 → Int32 → Int32 → Prop := Nat.rec (motive := fun _ => (Nat → Nat → Int32) → (Nat → Nat → Int64) → Int32 → Int64 → Int32 → Int64 → Int32 → Int32 → Prop) (fun _ _ _ _ _ _ _ _ => False) (fun _ K97 I J cn cm so v1 v3 v4 => ((cn ≤ v4 → (narrow .boolean (.int v3) = .int v3 ∧ post v3 I J cn cm so)) ∧ (¬ cn ≤ v4 → (wMin (fun r7 I_7 J_7 cn_7 cm_7 so_7 => ((r7 = 0 → (∃ k, wMisRight_171 post K97 k I_7 J_7 cn_7 cm_7 so_7 v1 v3 v4 0 0 0)) ∧ (¬ r7 = 0 → (vp_in v4 40 ∧ ((¬ (I_7 1 (Int32.toNatClampNeg v4)) = 2 → (∃ k, wMisRight_171 post K97 k I_7 J_7 cn_7 cm_7 so_7 v1 v3 v4 0 0 0)) ∧ ((I_7 1 (Int32.toNatClampNeg v4)) = 2 → (vp_in v4 40 ∧ (vp_in 2 5 ∧ ((¬ (I_7 2 (Int32.toNatClampNeg v4)) = (I_7 9 (Int32.toNatClampNeg 2)) → (∃ k, wMisRight_171 post K97 k I_7 J_7 cn_7 cm_7 so_7 v1 v3 v4 0 0 0)) ∧ ((I_7 2 (Int32.toNatClampNeg v4)) = (I_7 9 (Int32.toNatClampNeg 2)) → (vp_in v4 40 ∧ (vp_in 0 5 ∧ (((I_7 0 (Int32.toNatClampNeg v4)) = (I_7 9 (Int32.toNatClampNeg 0)) → (∃ k, wMisRight_171 post K97 k I_7 J_7 cn_7 cm_7 so_7 v1 v3 v4 0 0 0)) ∧ (¬ (I_7 0 (Int32.toNatClampNeg v4)) = (I_7 9 (Int32.toNatClampNeg 0)) → (∃ k, wMisRight_171 post K97 k I_7 J_7 cn_7 cm_7 so_7 v1 v3 v4 1 0 0))))))))))))))) I J cn cm so v1 v4)))) n
noncomputable def wMisRight_37 (post : Int32 → (Nat → Nat → Int32) → (Nat → Nat → Int64) → Int32 → Int64 → Int32 → Prop) (K10 : (Nat → Nat → Int32) → (Nat → Nat → Int64) → Int32 → Int64 → Int32 → Int64 → Int32 → Int32 → Prop) (n : Nat) : (Nat → Nat → Int32) → (Nat → Nat → Int64) → Int32 → Int64 → Int32 → Int64 → Int32 → Int32 → Int32 → Int32 → Prop := Nat.rec (motive := fun _ => (Nat → Nat → Int32) → (Nat → Nat → Int64) → Int32 → Int64 → Int32 → Int64 → Int32 → Int32 → Int32 → Int32 → Prop) (fun _ _ _ _ _ _ _ _ _ _ => False) (fun _ K37 I J cn cm so v1 v3 v4 v5 v6 => (vp_in 4 5 ∧ (((I 9 (Int32.toNatClampNeg 4)) ≤ v6 → (K10 I J cn cm so v1 v3 (v4 + 1))) ∧ (¬ (I 9 (Int32.toNatClampNeg 4)) ≤ v6 → ((v3 = 0 → (K37 I J cn cm so v1 0 v4 v5 (v6 + 1))) ∧ (¬ v3 = 0 → (vp_in v6 4 ∧ (wMfind (fun r21 I_21 J_21 cn_21 cm_21 so_21 => (vp_in r21 40 ∧ (wMin (fun r23 I_23 J_23 cn_23 cm_23 so_23 => ((¬ r23 = 0 → (K37 I_23 J_23 cn_23 cm_23 so_23 v1 0 v4 v5 (v6 + 1))) ∧ (r23 = 0 → (K37 I_23 J_23 cn_23 cm_23 so_23 v1 1 v4 v5 (v6 + 1))))) I_21 J_21 cn_21 cm_21 so_21 (J_21 2 (Int32.toNatClampNeg r21)) v5))) I J cn cm so (J 7 (Int32.toNatClampNeg v6)))))))))) n
noncomputable def wMisRight_10 (post : Int32 → (Nat → Nat → Int32) → (Nat → Nat → Int64) → Int32 → Int64 → Int32 → Prop) (n : Nat) : (Nat → Nat → Int32) → (Nat → Nat → Int64) → Int32 → Int64 → Int32 → Int64 → Int32 → Int32 → Prop := Nat.rec (motive := fun _ => (Nat → Nat → Int32) → (Nat → Nat → Int64) → Int32 → Int64 → Int32 → Int64 → Int32 → Int32 → Prop) (fun _ _ _ _ _ _ _ _ => False) (fun _ K10 I J cn cm so v1 v3 v4 => (vp_in 4 5 ∧ (((I 9 (Int32.toNatClampNeg 4)) ≤ v4 → (∃ k, wMisRight_97 post  k I J cn cm so v1 v3 0)) ∧ (¬ (I 9 (Int32.toNatClampNeg 4)) ≤ v4 → (vp_in v4 4 ∧ (wMfind (fun r5 I_5 J_5 cn_5 cm_5 so_5 => (∃ k, wMisRight_37 post K10 k I_5 J_5 cn_5 cm_5 so_5 v1 v3 v4 r5 0)) I J cn cm so (J 7 (Int32.toNatClampNeg v4)))))))) n
def wMisRight (post : Int32 → (Nat → Nat → Int32) → (Nat → Nat → Int64) → Int32 → Int64 → Int32 → Prop) (I : Nat → Nat → Int32) (J : Nat → Nat → Int64) (cn : Int32) (cm : Int64) (so : Int32) : Prop := (wMpastOf (fun r1 I_1 J_1 cn_1 cm_1 so_1 => (∃ k, wMisRight_10 post  k I_1 J_1 cn_1 cm_1 so_1 r1 1 0)) I J cn cm so )
set_option maxRecDepth 100000 in
set_option maxHeartbeats 4000000 in
theorem sMisRight_271 {p : Program} {l : Launch} {e : Env} {s : State} {m : MethodId} {args : Array Value} {below : List Frame} {meth : Method} {c : Code} {D : va_G} {A : Nat → Prop} {h0 : Nat} {ad : Nat → Nat} {cI cL : ClassId} {post : Int32 → (Nat → Nat → Int32) → (Nat → Nat → Int64) → Int32 → Int64 → Int32 → Prop} (C0 : mCx p s m args meth c D A h0 ad cI cL cXM_isRight 8 (some .boolean)) {K97 : (Nat → Nat → Int32) → (Nat → Nat → Int64) → Int32 → Int64 → Int32 → Int64 → Int32 → Int32 → Prop} (hK97 : ∀ (I : Nat → Nat → Int32) (J : Nat → Nat → Int64) (cn : Int32) (cm : Int64) (so : Int32) (v1 : Int64) (v3 : Int32) (v4 : Int32), K97 I J cn cm so v1 v3 v4 → ∀ (H : Heap) (locs : List Loc) (ls : Array Slot), mW D h0 ad cI cL (I, J, cn, cm, so) H → va_S A s.heap H locs → lv_has ls 8 [(0, .ref h0), (1, .long v1), (3, .int v3), (4, .int v4)] → W p l e ({ frames := 2, cells := 0, slots := 0, locals := 48 } : Room) s m args below meth c H locs 0 0 (MQ below (va_Qi (fun (r : Int32) (u : mS) => post r u.1 u.2.1 u.2.2.1 u.2.2.2.1 u.2.2.2.2) (fxC (mW D h0 ad cI cL)) A) args s 0 0 A) (F0 m 97 ls [])) : ∀ (I : Nat → Nat → Int32) (J : Nat → Nat → Int64) (cn : Int32) (cm : Int64) (so : Int32) (v1 : Int64) (v3 : Int32) (v4 : Int32) (v5 : Int32) (v6 : Int32), wMisRight_271 post K97 I J cn cm so v1 v3 v4 v5 v6 → ∀ (H : Heap) (locs : List Loc) (ls : Array Slot), mW D h0 ad cI cL (I, J, cn, cm, so) H → va_S A s.heap H locs → lv_has ls 8 [(0, .ref h0), (1, .long v1), (3, .int v3), (4, .int v4), (5, .int v5), (6, .int v6)] → W p l e ({ frames := 2, cells := 0, slots := 0, locals := 48 } : Room) s m args below meth c H locs 0 0 (MQ below (va_Qi (fun (r : Int32) (u : mS) => post r u.1 u.2.1 u.2.2.1 u.2.2.2.1 u.2.2.2.2) (fxC (mW D h0 ad cI cL)) A) args s 0 0 A) (F0 m 271 ls []) := by
  obtain ⟨hx, hb, hr, hml, hown, hts, hlocks, hK, hN, hD⟩ := id C0
  intro I J cn cm so v1 v3 v4 v5 v6 h H locs ls hP hS hl
  replace h : ((v3 = 0 → (K97 I J cn cm so v1 0 (v4 + 1))) ∧ (¬ v3 = 0 → ((v5 = 0 → (K97 I J cn cm so v1 1 (v4 + 1))) ∧ (¬ v5 = 0 → ((v6 = 0 → (K97 I J cn cm so v1 0 (v4 + 1))) ∧ (¬ v6 = 0 → (K97 I J cn cm so v1 1 (v4 + 1)))))))) := h
  refine lv_iload_n hx hb dXM_isRight_271 rfl (lv_at hl 2 rfl) ?_
  refine lv_if_eq (tgt := 289) hx hb dXM_isRight_272 (by decide) (fun c41 => ?_) (fun c41 => ?_)
  · replace h := h.1 c41
    refine lv_iconst (v := 0) hx hb dXM_isRight_289 (by decide) ?_
    refine lv_istore_n (lv' := [(3, .int 0), (0, .ref h0), (1, .long v1), (4, .int v4), (5, .int v5), (6, .int v6)]) hx hb dXM_isRight_290 rfl hl (by decide) rfl (fun ls hl => ?_)
    refine lv_iinc (v := v4 + 1) (lv' := [(4, .int (v4 + 1)), (3, .int 0), (0, .ref h0), (1, .long v1), (5, .int v5), (6, .int v6)]) hx hb dXM_isRight_291 hl (k := 3) rfl rfl (by decide) rfl (fun ls hl => ?_)
    refine lv_goto (tgt := 97) hx hb dXM_isRight_294 (by decide) ?_
    exact hK97 I J cn cm so v1 0 (v4 + 1) h H locs ls hP hS (lv_sub hl [2, 3, 1, 0] rfl)
  · replace h := h.2 c41
    refine lv_iload hx hb dXM_isRight_275 (lv_at hl 4 rfl) ?_
    refine lv_if_eq (tgt := 285) hx hb dXM_isRight_277 (by decide) (fun c42 => ?_) (fun c42 => ?_)
    · replace h := h.1 c42
      refine lv_iconst (v := 1) hx hb dXM_isRight_285 (by decide) ?_
      refine lv_goto (tgt := 290) hx hb dXM_isRight_286 (by decide) ?_
      refine lv_istore_n (lv' := [(3, .int 1), (0, .ref h0), (1, .long v1), (4, .int v4), (5, .int v5), (6, .int v6)]) hx hb dXM_isRight_290 rfl hl (by decide) rfl (fun ls hl => ?_)
      refine lv_iinc (v := v4 + 1) (lv' := [(4, .int (v4 + 1)), (3, .int 1), (0, .ref h0), (1, .long v1), (5, .int v5), (6, .int v6)]) hx hb dXM_isRight_291 hl (k := 3) rfl rfl (by decide) rfl (fun ls hl => ?_)
      refine lv_goto (tgt := 97) hx hb dXM_isRight_294 (by decide) ?_
      exact hK97 I J cn cm so v1 1 (v4 + 1) h H locs ls hP hS (lv_sub hl [2, 3, 1, 0] rfl)
    · replace h := h.2 c42
      refine lv_iload hx hb dXM_isRight_280 (lv_at hl 5 rfl) ?_
      refine lv_if_eq (tgt := 289) hx hb dXM_isRight_282 (by decide) (fun c43 => ?_) (fun c43 => ?_)
      · replace h := h.1 c43
        refine lv_iconst (v := 0) hx hb dXM_isRight_289 (by decide) ?_
        refine lv_istore_n (lv' := [(3, .int 0), (0, .ref h0), (1, .long v1), (4, .int v4), (5, .int v5), (6, .int v6)]) hx hb dXM_isRight_290 rfl hl (by decide) rfl (fun ls hl => ?_)
        refine lv_iinc (v := v4 + 1) (lv' := [(4, .int (v4 + 1)), (3, .int 0), (0, .ref h0), (1, .long v1), (5, .int v5), (6, .int v6)]) hx hb dXM_isRight_291 hl (k := 3) rfl rfl (by decide) rfl (fun ls hl => ?_)
        refine lv_goto (tgt := 97) hx hb dXM_isRight_294 (by decide) ?_
        exact hK97 I J cn cm so v1 0 (v4 + 1) h H locs ls hP hS (lv_sub hl [2, 3, 1, 0] rfl)
      · replace h := h.2 c43
        refine lv_iconst (v := 1) hx hb dXM_isRight_285 (by decide) ?_
        refine lv_goto (tgt := 290) hx hb dXM_isRight_286 (by decide) ?_
        refine lv_istore_n (lv' := [(3, .int 1), (0, .ref h0), (1, .long v1), (4, .int v4), (5, .int v5), (6, .int v6)]) hx hb dXM_isRight_290 rfl hl (by decide) rfl (fun ls hl => ?_)
        refine lv_iinc (v := v4 + 1) (lv' := [(4, .int (v4 + 1)), (3, .int 1), (0, .ref h0), (1, .long v1), (5, .int v5), (6, .int v6)]) hx hb dXM_isRight_291 hl (k := 3) rfl rfl (by decide) rfl (fun ls hl => ?_)
        refine lv_goto (tgt := 97) hx hb dXM_isRight_294 (by decide) ?_
        exact hK97 I J cn cm so v1 1 (v4 + 1) h H locs ls hP hS (lv_sub hl [2, 3, 1, 0] rfl)
set_option maxRecDepth 100000 in
set_option maxHeartbeats 4000000 in
theorem sMisRight_171 {p : Program} {l : Launch} {e : Env} {s : State} {m : MethodId} {args : Array Value} {below : List Frame} {meth : Method} {c : Code} {D : va_G} {A : Nat → Prop} {h0 : Nat} {ad : Nat → Nat} {cI cL : ClassId} {post : Int32 → (Nat → Nat → Int32) → (Nat → Nat → Int64) → Int32 → Int64 → Int32 → Prop} (C0 : mCx p s m args meth c D A h0 ad cI cL cXM_isRight 8 (some .boolean)) {K97 : (Nat → Nat → Int32) → (Nat → Nat → Int64) → Int32 → Int64 → Int32 → Int64 → Int32 → Int32 → Prop} (hK97 : ∀ (I : Nat → Nat → Int32) (J : Nat → Nat → Int64) (cn : Int32) (cm : Int64) (so : Int32) (v1 : Int64) (v3 : Int32) (v4 : Int32), K97 I J cn cm so v1 v3 v4 → ∀ (H : Heap) (locs : List Loc) (ls : Array Slot), mW D h0 ad cI cL (I, J, cn, cm, so) H → va_S A s.heap H locs → lv_has ls 8 [(0, .ref h0), (1, .long v1), (3, .int v3), (4, .int v4)] → W p l e ({ frames := 2, cells := 0, slots := 0, locals := 48 } : Room) s m args below meth c H locs 0 0 (MQ below (va_Qi (fun (r : Int32) (u : mS) => post r u.1 u.2.1 u.2.2.1 u.2.2.2.1 u.2.2.2.2) (fxC (mW D h0 ad cI cL)) A) args s 0 0 A) (F0 m 97 ls [])) : ∀ (n : Nat) (I : Nat → Nat → Int32) (J : Nat → Nat → Int64) (cn : Int32) (cm : Int64) (so : Int32) (v1 : Int64) (v3 : Int32) (v4 : Int32) (v5 : Int32) (v6 : Int32) (v7 : Int32), wMisRight_171 post K97 n I J cn cm so v1 v3 v4 v5 v6 v7 → ∀ (H : Heap) (locs : List Loc) (ls : Array Slot), mW D h0 ad cI cL (I, J, cn, cm, so) H → va_S A s.heap H locs → lv_has ls 8 [(0, .ref h0), (1, .long v1), (3, .int v3), (4, .int v4), (5, .int v5), (6, .int v6), (7, .int v7)] → W p l e ({ frames := 2, cells := 0, slots := 0, locals := 48 } : Room) s m args below meth c H locs 0 0 (MQ below (va_Qi (fun (r : Int32) (u : mS) => post r u.1 u.2.1 u.2.2.1 u.2.2.2.1 u.2.2.2.2) (fxC (mW D h0 ad cI cL)) A) args s 0 0 A) (F0 m 171 ls []) := by
  obtain ⟨hx, hb, hr, hml, hown, hts, hlocks, hK, hN, hD⟩ := id C0
  intro n
  induction n with
  | zero => exact fun _ _ _ _ _ _ _ _ _ _ _ h => h.elim
  | succ n hK171 =>
    intro I J cn cm so v1 v3 v4 v5 v6 v7 h H locs ls hP hS hl
    replace h : ((cn ≤ v7 → (wMisRight_271 post K97 I J cn cm so v1 v3 v4 v5 v6)) ∧ (¬ cn ≤ v7 → ((v5 = 0 → (wMisRight_271 post K97 I J cn cm so v1 v3 v4 v5 v6)) ∧ (¬ v5 = 0 → ((¬ v6 = 0 → ((wMisRight_171 post K97 n) I J cn cm so v1 v3 v4 v5 1 (v7 + 1))) ∧ (v6 = 0 → (wMin (fun r28 I_28 J_28 cn_28 cm_28 so_28 => ((r28 = 0 → ((wMisRight_171 post K97 n) I_28 J_28 cn_28 cm_28 so_28 v1 v3 v4 v5 0 (v7 + 1))) ∧ (¬ r28 = 0 → (vp_in v7 40 ∧ ((¬ (I_28 1 (Int32.toNatClampNeg v7)) = 3 → ((wMisRight_171 post K97 n) I_28 J_28 cn_28 cm_28 so_28 v1 v3 v4 v5 0 (v7 + 1))) ∧ ((I_28 1 (Int32.toNatClampNeg v7)) = 3 → (vp_in v7 40 ∧ (vp_in 2 5 ∧ ((¬ (I_28 2 (Int32.toNatClampNeg v7)) = (I_28 9 (Int32.toNatClampNeg 2)) → ((wMisRight_171 post K97 n) I_28 J_28 cn_28 cm_28 so_28 v1 v3 v4 v5 0 (v7 + 1))) ∧ ((I_28 2 (Int32.toNatClampNeg v7)) = (I_28 9 (Int32.toNatClampNeg 2)) → (vp_in v7 40 ∧ (vp_in v4 40 ∧ ((¬ (I_28 0 (Int32.toNatClampNeg v7)) = (I_28 0 (Int32.toNatClampNeg v4)) → ((wMisRight_171 post K97 n) I_28 J_28 cn_28 cm_28 so_28 v1 v3 v4 v5 0 (v7 + 1))) ∧ ((I_28 0 (Int32.toNatClampNeg v7)) = (I_28 0 (Int32.toNatClampNeg v4)) → (vp_in v7 40 ∧ (wMin (fun r39 I_39 J_39 cn_39 cm_39 so_39 => ((r39 = 0 → ((wMisRight_171 post K97 n) I_39 J_39 cn_39 cm_39 so_39 v1 v3 v4 v5 0 (v7 + 1))) ∧ (¬ r39 = 0 → ((wMisRight_171 post K97 n) I_39 J_39 cn_39 cm_39 so_39 v1 v3 v4 v5 1 (v7 + 1))))) I_28 J_28 cn_28 cm_28 so_28 (J_28 2 (Int32.toNatClampNeg v7)) v4)))))))))))))))) I J cn cm so v1 v7))))))) := h
    refine lv_iload hx hb dXM_isRight_171 (lv_at hl 6 rfl) ?_
    refine lv_aload_n hx hb dXM_isRight_173 rfl (lv_at hl 0 rfl) ?_
    refine mg_count hx hb hown hts hK hP dXM_isRight_174 ?_
    refine lv_icmp_ge (tgt := 271) hx hb dXM_isRight_177 (by decide) (fun c25 => ?_) (fun c25 => ?_)
    · replace h := h.1 c25
      exact sMisRight_271  C0 hK97 I J cn cm so v1 v3 v4 v5 v6 h H locs ls hP hS (lv_sub hl [0, 1, 2, 3, 4, 5] rfl)
    · replace h := h.2 c25
      refine lv_iload hx hb dXM_isRight_180 (lv_at hl 4 rfl) ?_
      refine lv_if_eq (tgt := 271) hx hb dXM_isRight_182 (by decide) (fun c26 => ?_) (fun c26 => ?_)
      · replace h := h.1 c26
        exact sMisRight_271  C0 hK97 I J cn cm so v1 v3 v4 v5 v6 h H locs ls hP hS (lv_sub hl [0, 1, 2, 3, 4, 5] rfl)
      · replace h := h.2 c26
        refine lv_iload hx hb dXM_isRight_185 (lv_at hl 5 rfl) ?_
        refine lv_if_ne (tgt := 258) hx hb dXM_isRight_187 (by decide) (fun c27 => ?_) (fun c27 => ?_)
        · replace h := h.1 c27
          refine lv_iconst (v := 1) hx hb dXM_isRight_258 (by decide) ?_
          refine lv_goto (tgt := 263) hx hb dXM_isRight_259 (by decide) ?_
          refine lv_istore (lv' := [(6, .int 1), (0, .ref h0), (1, .long v1), (3, .int v3), (4, .int v4), (5, .int v5), (7, .int v7)]) hx hb dXM_isRight_263 hl (by decide) rfl (fun ls hl => ?_)
          refine lv_iinc (v := v7 + 1) (lv' := [(7, .int (v7 + 1)), (6, .int 1), (0, .ref h0), (1, .long v1), (3, .int v3), (4, .int v4), (5, .int v5)]) hx hb dXM_isRight_265 hl (k := 6) rfl rfl (by decide) rfl (fun ls hl => ?_)
          refine lv_goto (tgt := 171) hx hb dXM_isRight_268 (by decide) ?_
          exact hK171 I J cn cm so v1 v3 v4 v5 1 (v7 + 1) h H locs ls hP hS (lv_sub hl [2, 3, 4, 5, 6, 1, 0] rfl)
        · replace h := h.2 c27
          refine lv_lload_n hx hb dXM_isRight_190 rfl (lv_at hl 1 rfl) ?_
          refine lv_iload hx hb dXM_isRight_191 (lv_at hl 6 rfl) ?_
          refine va_calli (va_runS (As := [.long v1, .int v7]) (rest := []) ⟨hx, hb, hml, hown, hts⟩ (cMin hD h) (fx_cwS 2 hts gw_M_88 hdXM_in ⟨Nat.le_of_ble_eq_true rfl, Nat.le_of_ble_eq_true rfl⟩) (fx_preS hP hK hN) rfl rfl hl.1 rfl (lv_room (Nat.le_of_ble_eq_true rfl)) dXM_isRight_193 ⟨Nat.le_of_ble_eq_true rfl, Nat.le_of_ble_eq_true rfl⟩) hS (fun _ _ q => q) (fun _ q => q) (fun r28 u t H locs ht hvm h hP hz hk hS => ?_)
          rw [fxC, ht] at hP
          obtain ⟨I_28, J_28, cn_28, cm_28, so_28⟩ := u
          dsimp only at h
          refine lv_if_eq (tgt := 262) hx hb dXM_isRight_196 (by decide) (fun c29 => ?_) (fun c29 => ?_)
          · replace h := h.1 c29
            refine lv_iconst (v := 0) hx hb dXM_isRight_262 (by decide) ?_
            refine lv_istore (lv' := [(6, .int 0), (0, .ref h0), (1, .long v1), (3, .int v3), (4, .int v4), (5, .int v5), (7, .int v7)]) hx hb dXM_isRight_263 hl (by decide) rfl (fun ls hl => ?_)
            refine lv_iinc (v := v7 + 1) (lv' := [(7, .int (v7 + 1)), (6, .int 0), (0, .ref h0), (1, .long v1), (3, .int v3), (4, .int v4), (5, .int v5)]) hx hb dXM_isRight_265 hl (k := 6) rfl rfl (by decide) rfl (fun ls hl => ?_)
            refine lv_goto (tgt := 171) hx hb dXM_isRight_268 (by decide) ?_
            exact hK171 I_28 J_28 cn_28 cm_28 so_28 v1 v3 v4 v5 0 (v7 + 1) h H locs ls hP hS (lv_sub hl [2, 3, 4, 5, 6, 1, 0] rfl)
          · replace h := h.2 c29
            refine lv_aload_n hx hb dXM_isRight_199 rfl (lv_at hl 0 rfl) ?_
            refine mg_kind hx hb hown hts hK hP dXM_isRight_200 ?_
            refine lv_iload hx hb dXM_isRight_203 (lv_at hl 6 rfl) ?_
            obtain ⟨h30, h⟩ := h
            refine ma_2 hx hb hK hP h30 dXM_isRight_205 ?_
            refine lv_iconst (v := 3) hx hb dXM_isRight_206 (by decide) ?_
            refine lv_icmp_ne (tgt := 262) hx hb dXM_isRight_207 (by decide) (fun c31 => ?_) (fun c31 => ?_)
            · replace h := h.1 c31
              refine lv_iconst (v := 0) hx hb dXM_isRight_262 (by decide) ?_
              refine lv_istore (lv' := [(6, .int 0), (0, .ref h0), (1, .long v1), (3, .int v3), (4, .int v4), (5, .int v5), (7, .int v7)]) hx hb dXM_isRight_263 hl (by decide) rfl (fun ls hl => ?_)
              refine lv_iinc (v := v7 + 1) (lv' := [(7, .int (v7 + 1)), (6, .int 0), (0, .ref h0), (1, .long v1), (3, .int v3), (4, .int v4), (5, .int v5)]) hx hb dXM_isRight_265 hl (k := 6) rfl rfl (by decide) rfl (fun ls hl => ?_)
              refine lv_goto (tgt := 171) hx hb dXM_isRight_268 (by decide) ?_
              exact hK171 I_28 J_28 cn_28 cm_28 so_28 v1 v3 v4 v5 0 (v7 + 1) h H locs ls hP hS (lv_sub hl [2, 3, 4, 5, 6, 1, 0] rfl)
            · replace h := h.2 c31
              refine lv_aload_n hx hb dXM_isRight_210 rfl (lv_at hl 0 rfl) ?_
              refine mg_key hx hb hown hts hK hP dXM_isRight_211 ?_
              refine lv_iload hx hb dXM_isRight_214 (lv_at hl 6 rfl) ?_
              obtain ⟨h32, h⟩ := h
              refine ma_3 hx hb hK hP h32 dXM_isRight_216 ?_
              refine lv_aload_n hx hb dXM_isRight_217 rfl (lv_at hl 0 rfl) ?_
              refine mg_numbers hx hb hown hts hK hP dXM_isRight_218 ?_
              refine lv_iconst (v := 2) hx hb dXM_isRight_221 (by decide) ?_
              obtain ⟨h33, h⟩ := h
              refine ma_16 hx hb hK hP h33 dXM_isRight_222 ?_
              refine lv_icmp_ne (tgt := 262) hx hb dXM_isRight_223 (by decide) (fun c34 => ?_) (fun c34 => ?_)
              · replace h := h.1 c34
                refine lv_iconst (v := 0) hx hb dXM_isRight_262 (by decide) ?_
                refine lv_istore (lv' := [(6, .int 0), (0, .ref h0), (1, .long v1), (3, .int v3), (4, .int v4), (5, .int v5), (7, .int v7)]) hx hb dXM_isRight_263 hl (by decide) rfl (fun ls hl => ?_)
                refine lv_iinc (v := v7 + 1) (lv' := [(7, .int (v7 + 1)), (6, .int 0), (0, .ref h0), (1, .long v1), (3, .int v3), (4, .int v4), (5, .int v5)]) hx hb dXM_isRight_265 hl (k := 6) rfl rfl (by decide) rfl (fun ls hl => ?_)
                refine lv_goto (tgt := 171) hx hb dXM_isRight_268 (by decide) ?_
                exact hK171 I_28 J_28 cn_28 cm_28 so_28 v1 v3 v4 v5 0 (v7 + 1) h H locs ls hP hS (lv_sub hl [2, 3, 4, 5, 6, 1, 0] rfl)
              · replace h := h.2 c34
                refine lv_aload_n hx hb dXM_isRight_226 rfl (lv_at hl 0 rfl) ?_
                refine mg_author hx hb hown hts hK hP dXM_isRight_227 ?_
                refine lv_iload hx hb dXM_isRight_230 (lv_at hl 6 rfl) ?_
                obtain ⟨h35, h⟩ := h
                refine ma_1 hx hb hK hP h35 dXM_isRight_232 ?_
                refine lv_aload_n hx hb dXM_isRight_233 rfl (lv_at hl 0 rfl) ?_
                refine mg_author hx hb hown hts hK hP dXM_isRight_234 ?_
                refine lv_iload hx hb dXM_isRight_237 (lv_at hl 3 rfl) ?_
                obtain ⟨h36, h⟩ := h
                refine ma_1 hx hb hK hP h36 dXM_isRight_239 ?_
                refine lv_icmp_ne (tgt := 262) hx hb dXM_isRight_240 (by decide) (fun c37 => ?_) (fun c37 => ?_)
                · replace h := h.1 c37
                  refine lv_iconst (v := 0) hx hb dXM_isRight_262 (by decide) ?_
                  refine lv_istore (lv' := [(6, .int 0), (0, .ref h0), (1, .long v1), (3, .int v3), (4, .int v4), (5, .int v5), (7, .int v7)]) hx hb dXM_isRight_263 hl (by decide) rfl (fun ls hl => ?_)
                  refine lv_iinc (v := v7 + 1) (lv' := [(7, .int (v7 + 1)), (6, .int 0), (0, .ref h0), (1, .long v1), (3, .int v3), (4, .int v4), (5, .int v5)]) hx hb dXM_isRight_265 hl (k := 6) rfl rfl (by decide) rfl (fun ls hl => ?_)
                  refine lv_goto (tgt := 171) hx hb dXM_isRight_268 (by decide) ?_
                  exact hK171 I_28 J_28 cn_28 cm_28 so_28 v1 v3 v4 v5 0 (v7 + 1) h H locs ls hP hS (lv_sub hl [2, 3, 4, 5, 6, 1, 0] rfl)
                · replace h := h.2 c37
                  refine lv_aload_n hx hb dXM_isRight_243 rfl (lv_at hl 0 rfl) ?_
                  refine mg_past hx hb hown hts hK hP dXM_isRight_244 ?_
                  refine lv_iload hx hb dXM_isRight_247 (lv_at hl 6 rfl) ?_
                  obtain ⟨h38, h⟩ := h
                  refine ma_7 hx hb hK hP h38 dXM_isRight_249 ?_
                  refine lv_iload hx hb dXM_isRight_250 (lv_at hl 3 rfl) ?_
                  refine va_calli (va_runS (As := [.long (J_28 2 (Int32.toNatClampNeg v7)), .int v4]) (rest := []) ⟨hx, hb, hml, hown, hts⟩ (cMin hD h) (fx_cwS 2 hts gw_M_88 hdXM_in ⟨Nat.le_of_ble_eq_true rfl, Nat.le_of_ble_eq_true rfl⟩) (fx_preS hP hK hN) rfl rfl hl.1 rfl (lv_room (Nat.le_of_ble_eq_true rfl)) dXM_isRight_252 ⟨Nat.le_of_ble_eq_true rfl, Nat.le_of_ble_eq_true rfl⟩) hS (fun _ _ q => q) (fun _ q => q) (fun r39 u t H locs ht hvm h hP hz hk hS => ?_)
                  rw [fxC, ht] at hP
                  obtain ⟨I_39, J_39, cn_39, cm_39, so_39⟩ := u
                  dsimp only at h
                  refine lv_if_eq (tgt := 262) hx hb dXM_isRight_255 (by decide) (fun c40 => ?_) (fun c40 => ?_)
                  · replace h := h.1 c40
                    refine lv_iconst (v := 0) hx hb dXM_isRight_262 (by decide) ?_
                    refine lv_istore (lv' := [(6, .int 0), (0, .ref h0), (1, .long v1), (3, .int v3), (4, .int v4), (5, .int v5), (7, .int v7)]) hx hb dXM_isRight_263 hl (by decide) rfl (fun ls hl => ?_)
                    refine lv_iinc (v := v7 + 1) (lv' := [(7, .int (v7 + 1)), (6, .int 0), (0, .ref h0), (1, .long v1), (3, .int v3), (4, .int v4), (5, .int v5)]) hx hb dXM_isRight_265 hl (k := 6) rfl rfl (by decide) rfl (fun ls hl => ?_)
                    refine lv_goto (tgt := 171) hx hb dXM_isRight_268 (by decide) ?_
                    exact hK171 I_39 J_39 cn_39 cm_39 so_39 v1 v3 v4 v5 0 (v7 + 1) h H locs ls hP hS (lv_sub hl [2, 3, 4, 5, 6, 1, 0] rfl)
                  · replace h := h.2 c40
                    refine lv_iconst (v := 1) hx hb dXM_isRight_258 (by decide) ?_
                    refine lv_goto (tgt := 263) hx hb dXM_isRight_259 (by decide) ?_
                    refine lv_istore (lv' := [(6, .int 1), (0, .ref h0), (1, .long v1), (3, .int v3), (4, .int v4), (5, .int v5), (7, .int v7)]) hx hb dXM_isRight_263 hl (by decide) rfl (fun ls hl => ?_)
                    refine lv_iinc (v := v7 + 1) (lv' := [(7, .int (v7 + 1)), (6, .int 1), (0, .ref h0), (1, .long v1), (3, .int v3), (4, .int v4), (5, .int v5)]) hx hb dXM_isRight_265 hl (k := 6) rfl rfl (by decide) rfl (fun ls hl => ?_)
                    refine lv_goto (tgt := 171) hx hb dXM_isRight_268 (by decide) ?_
                    exact hK171 I_39 J_39 cn_39 cm_39 so_39 v1 v3 v4 v5 1 (v7 + 1) h H locs ls hP hS (lv_sub hl [2, 3, 4, 5, 6, 1, 0] rfl)
set_option maxRecDepth 100000 in
set_option maxHeartbeats 4000000 in
theorem sMisRight_97 {p : Program} {l : Launch} {e : Env} {s : State} {m : MethodId} {args : Array Value} {below : List Frame} {meth : Method} {c : Code} {D : va_G} {A : Nat → Prop} {h0 : Nat} {ad : Nat → Nat} {cI cL : ClassId} {post : Int32 → (Nat → Nat → Int32) → (Nat → Nat → Int64) → Int32 → Int64 → Int32 → Prop} (C0 : mCx p s m args meth c D A h0 ad cI cL cXM_isRight 8 (some .boolean)) : ∀ (n : Nat) (I : Nat → Nat → Int32) (J : Nat → Nat → Int64) (cn : Int32) (cm : Int64) (so : Int32) (v1 : Int64) (v3 : Int32) (v4 : Int32), wMisRight_97 post  n I J cn cm so v1 v3 v4 → ∀ (H : Heap) (locs : List Loc) (ls : Array Slot), mW D h0 ad cI cL (I, J, cn, cm, so) H → va_S A s.heap H locs → lv_has ls 8 [(0, .ref h0), (1, .long v1), (3, .int v3), (4, .int v4)] → W p l e ({ frames := 2, cells := 0, slots := 0, locals := 48 } : Room) s m args below meth c H locs 0 0 (MQ below (va_Qi (fun (r : Int32) (u : mS) => post r u.1 u.2.1 u.2.2.1 u.2.2.2.1 u.2.2.2.2) (fxC (mW D h0 ad cI cL)) A) args s 0 0 A) (F0 m 97 ls []) := by
  obtain ⟨hx, hb, hr, hml, hown, hts, hlocks, hK, hN, hD⟩ := id C0
  intro n
  induction n with
  | zero => exact fun _ _ _ _ _ _ _ _ h => h.elim
  | succ n hK97 =>
    intro I J cn cm so v1 v3 v4 h H locs ls hP hS hl
    replace h : ((cn ≤ v4 → (narrow .boolean (.int v3) = .int v3 ∧ post v3 I J cn cm so)) ∧ (¬ cn ≤ v4 → (wMin (fun r7 I_7 J_7 cn_7 cm_7 so_7 => ((r7 = 0 → (∃ k, wMisRight_171 post (wMisRight_97 post  n) k I_7 J_7 cn_7 cm_7 so_7 v1 v3 v4 0 0 0)) ∧ (¬ r7 = 0 → (vp_in v4 40 ∧ ((¬ (I_7 1 (Int32.toNatClampNeg v4)) = 2 → (∃ k, wMisRight_171 post (wMisRight_97 post  n) k I_7 J_7 cn_7 cm_7 so_7 v1 v3 v4 0 0 0)) ∧ ((I_7 1 (Int32.toNatClampNeg v4)) = 2 → (vp_in v4 40 ∧ (vp_in 2 5 ∧ ((¬ (I_7 2 (Int32.toNatClampNeg v4)) = (I_7 9 (Int32.toNatClampNeg 2)) → (∃ k, wMisRight_171 post (wMisRight_97 post  n) k I_7 J_7 cn_7 cm_7 so_7 v1 v3 v4 0 0 0)) ∧ ((I_7 2 (Int32.toNatClampNeg v4)) = (I_7 9 (Int32.toNatClampNeg 2)) → (vp_in v4 40 ∧ (vp_in 0 5 ∧ (((I_7 0 (Int32.toNatClampNeg v4)) = (I_7 9 (Int32.toNatClampNeg 0)) → (∃ k, wMisRight_171 post (wMisRight_97 post  n) k I_7 J_7 cn_7 cm_7 so_7 v1 v3 v4 0 0 0)) ∧ (¬ (I_7 0 (Int32.toNatClampNeg v4)) = (I_7 9 (Int32.toNatClampNeg 0)) → (∃ k, wMisRight_171 post (wMisRight_97 post  n) k I_7 J_7 cn_7 cm_7 so_7 v1 v3 v4 1 0 0))))))))))))))) I J cn cm so v1 v4))) := h
    refine lv_iload hx hb dXM_isRight_97 (lv_at hl 3 rfl) ?_
    refine lv_aload_n hx hb dXM_isRight_99 rfl (lv_at hl 0 rfl) ?_
    refine mg_count hx hb hown hts hK hP dXM_isRight_100 ?_
    refine lv_icmp_ge (tgt := 297) hx hb dXM_isRight_103 (by decide) (fun c6 => ?_) (fun c6 => ?_)
    · replace h := h.1 c6
      refine lv_iload_n hx hb dXM_isRight_297 rfl (lv_at hl 2 rfl) ?_
      obtain ⟨hz, h⟩ := h
      exact W.zret hx hb hr hz (fun t ht hW => ⟨⟨_, (I, J, cn, cm, so), rfl, h, by rw [fxC, ht]; exact hP⟩, hS.F ht⟩) hS.2.2 dXM_isRight_298 hlocks
    · replace h := h.2 c6
      refine lv_lload_n hx hb dXM_isRight_106 rfl (lv_at hl 1 rfl) ?_
      refine lv_iload hx hb dXM_isRight_107 (lv_at hl 3 rfl) ?_
      refine va_calli (va_runS (As := [.long v1, .int v4]) (rest := []) ⟨hx, hb, hml, hown, hts⟩ (cMin hD h) (fx_cwS 2 hts gw_M_88 hdXM_in ⟨Nat.le_of_ble_eq_true rfl, Nat.le_of_ble_eq_true rfl⟩) (fx_preS hP hK hN) rfl rfl hl.1 rfl (lv_room (Nat.le_of_ble_eq_true rfl)) dXM_isRight_109 ⟨Nat.le_of_ble_eq_true rfl, Nat.le_of_ble_eq_true rfl⟩) hS (fun _ _ q => q) (fun _ q => q) (fun r7 u t H locs ht hvm h hP hz hk hS => ?_)
      rw [fxC, ht] at hP
      obtain ⟨I_7, J_7, cn_7, cm_7, so_7⟩ := u
      dsimp only at h
      refine lv_if_eq (tgt := 162) hx hb dXM_isRight_112 (by decide) (fun c8 => ?_) (fun c8 => ?_)
      · replace h := h.1 c8
        refine lv_iconst (v := 0) hx hb dXM_isRight_162 (by decide) ?_
        refine lv_istore (lv' := [(5, .int 0), (0, .ref h0), (1, .long v1), (3, .int v3), (4, .int v4)]) hx hb dXM_isRight_163 hl (by decide) rfl (fun ls hl => ?_)
        refine lv_iconst (v := 0) hx hb dXM_isRight_165 (by decide) ?_
        refine lv_istore (lv' := [(6, .int 0), (5, .int 0), (0, .ref h0), (1, .long v1), (3, .int v3), (4, .int v4)]) hx hb dXM_isRight_166 hl (by decide) rfl (fun ls hl => ?_)
        refine lv_iconst (v := 0) hx hb dXM_isRight_168 (by decide) ?_
        refine lv_istore (lv' := [(7, .int 0), (6, .int 0), (5, .int 0), (0, .ref h0), (1, .long v1), (3, .int v3), (4, .int v4)]) hx hb dXM_isRight_169 hl (by decide) rfl (fun ls hl => ?_)
        obtain ⟨k, h⟩ := h
        exact sMisRight_171  C0 hK97 k I_7 J_7 cn_7 cm_7 so_7 v1 v3 v4 0 0 0 h H locs ls hP hS (lv_sub hl [3, 4, 5, 6, 2, 1, 0] rfl)
      · replace h := h.2 c8
        refine lv_aload_n hx hb dXM_isRight_115 rfl (lv_at hl 0 rfl) ?_
        refine mg_kind hx hb hown hts hK hP dXM_isRight_116 ?_
        refine lv_iload hx hb dXM_isRight_119 (lv_at hl 3 rfl) ?_
        obtain ⟨h9, h⟩ := h
        refine ma_2 hx hb hK hP h9 dXM_isRight_121 ?_
        refine lv_iconst (v := 2) hx hb dXM_isRight_122 (by decide) ?_
        refine lv_icmp_ne (tgt := 162) hx hb dXM_isRight_123 (by decide) (fun c10 => ?_) (fun c10 => ?_)
        · replace h := h.1 c10
          refine lv_iconst (v := 0) hx hb dXM_isRight_162 (by decide) ?_
          refine lv_istore (lv' := [(5, .int 0), (0, .ref h0), (1, .long v1), (3, .int v3), (4, .int v4)]) hx hb dXM_isRight_163 hl (by decide) rfl (fun ls hl => ?_)
          refine lv_iconst (v := 0) hx hb dXM_isRight_165 (by decide) ?_
          refine lv_istore (lv' := [(6, .int 0), (5, .int 0), (0, .ref h0), (1, .long v1), (3, .int v3), (4, .int v4)]) hx hb dXM_isRight_166 hl (by decide) rfl (fun ls hl => ?_)
          refine lv_iconst (v := 0) hx hb dXM_isRight_168 (by decide) ?_
          refine lv_istore (lv' := [(7, .int 0), (6, .int 0), (5, .int 0), (0, .ref h0), (1, .long v1), (3, .int v3), (4, .int v4)]) hx hb dXM_isRight_169 hl (by decide) rfl (fun ls hl => ?_)
          obtain ⟨k, h⟩ := h
          exact sMisRight_171  C0 hK97 k I_7 J_7 cn_7 cm_7 so_7 v1 v3 v4 0 0 0 h H locs ls hP hS (lv_sub hl [3, 4, 5, 6, 2, 1, 0] rfl)
        · replace h := h.2 c10
          refine lv_aload_n hx hb dXM_isRight_126 rfl (lv_at hl 0 rfl) ?_
          refine mg_key hx hb hown hts hK hP dXM_isRight_127 ?_
          refine lv_iload hx hb dXM_isRight_130 (lv_at hl 3 rfl) ?_
          obtain ⟨h11, h⟩ := h
          refine ma_3 hx hb hK hP h11 dXM_isRight_132 ?_
          refine lv_aload_n hx hb dXM_isRight_133 rfl (lv_at hl 0 rfl) ?_
          refine mg_numbers hx hb hown hts hK hP dXM_isRight_134 ?_
          refine lv_iconst (v := 2) hx hb dXM_isRight_137 (by decide) ?_
          obtain ⟨h12, h⟩ := h
          refine ma_16 hx hb hK hP h12 dXM_isRight_138 ?_
          refine lv_icmp_ne (tgt := 162) hx hb dXM_isRight_139 (by decide) (fun c13 => ?_) (fun c13 => ?_)
          · replace h := h.1 c13
            refine lv_iconst (v := 0) hx hb dXM_isRight_162 (by decide) ?_
            refine lv_istore (lv' := [(5, .int 0), (0, .ref h0), (1, .long v1), (3, .int v3), (4, .int v4)]) hx hb dXM_isRight_163 hl (by decide) rfl (fun ls hl => ?_)
            refine lv_iconst (v := 0) hx hb dXM_isRight_165 (by decide) ?_
            refine lv_istore (lv' := [(6, .int 0), (5, .int 0), (0, .ref h0), (1, .long v1), (3, .int v3), (4, .int v4)]) hx hb dXM_isRight_166 hl (by decide) rfl (fun ls hl => ?_)
            refine lv_iconst (v := 0) hx hb dXM_isRight_168 (by decide) ?_
            refine lv_istore (lv' := [(7, .int 0), (6, .int 0), (5, .int 0), (0, .ref h0), (1, .long v1), (3, .int v3), (4, .int v4)]) hx hb dXM_isRight_169 hl (by decide) rfl (fun ls hl => ?_)
            obtain ⟨k, h⟩ := h
            exact sMisRight_171  C0 hK97 k I_7 J_7 cn_7 cm_7 so_7 v1 v3 v4 0 0 0 h H locs ls hP hS (lv_sub hl [3, 4, 5, 6, 2, 1, 0] rfl)
          · replace h := h.2 c13
            refine lv_aload_n hx hb dXM_isRight_142 rfl (lv_at hl 0 rfl) ?_
            refine mg_author hx hb hown hts hK hP dXM_isRight_143 ?_
            refine lv_iload hx hb dXM_isRight_146 (lv_at hl 3 rfl) ?_
            obtain ⟨h14, h⟩ := h
            refine ma_1 hx hb hK hP h14 dXM_isRight_148 ?_
            refine lv_aload_n hx hb dXM_isRight_149 rfl (lv_at hl 0 rfl) ?_
            refine mg_numbers hx hb hown hts hK hP dXM_isRight_150 ?_
            refine lv_iconst (v := 0) hx hb dXM_isRight_153 (by decide) ?_
            obtain ⟨h15, h⟩ := h
            refine ma_16 hx hb hK hP h15 dXM_isRight_154 ?_
            refine lv_icmp_eq (tgt := 162) hx hb dXM_isRight_155 (by decide) (fun c16 => ?_) (fun c16 => ?_)
            · replace h := h.1 c16
              refine lv_iconst (v := 0) hx hb dXM_isRight_162 (by decide) ?_
              refine lv_istore (lv' := [(5, .int 0), (0, .ref h0), (1, .long v1), (3, .int v3), (4, .int v4)]) hx hb dXM_isRight_163 hl (by decide) rfl (fun ls hl => ?_)
              refine lv_iconst (v := 0) hx hb dXM_isRight_165 (by decide) ?_
              refine lv_istore (lv' := [(6, .int 0), (5, .int 0), (0, .ref h0), (1, .long v1), (3, .int v3), (4, .int v4)]) hx hb dXM_isRight_166 hl (by decide) rfl (fun ls hl => ?_)
              refine lv_iconst (v := 0) hx hb dXM_isRight_168 (by decide) ?_
              refine lv_istore (lv' := [(7, .int 0), (6, .int 0), (5, .int 0), (0, .ref h0), (1, .long v1), (3, .int v3), (4, .int v4)]) hx hb dXM_isRight_169 hl (by decide) rfl (fun ls hl => ?_)
              obtain ⟨k, h⟩ := h
              exact sMisRight_171  C0 hK97 k I_7 J_7 cn_7 cm_7 so_7 v1 v3 v4 0 0 0 h H locs ls hP hS (lv_sub hl [3, 4, 5, 6, 2, 1, 0] rfl)
            · replace h := h.2 c16
              refine lv_iconst (v := 1) hx hb dXM_isRight_158 (by decide) ?_
              refine lv_goto (tgt := 163) hx hb dXM_isRight_159 (by decide) ?_
              refine lv_istore (lv' := [(5, .int 1), (0, .ref h0), (1, .long v1), (3, .int v3), (4, .int v4)]) hx hb dXM_isRight_163 hl (by decide) rfl (fun ls hl => ?_)
              refine lv_iconst (v := 0) hx hb dXM_isRight_165 (by decide) ?_
              refine lv_istore (lv' := [(6, .int 0), (5, .int 1), (0, .ref h0), (1, .long v1), (3, .int v3), (4, .int v4)]) hx hb dXM_isRight_166 hl (by decide) rfl (fun ls hl => ?_)
              refine lv_iconst (v := 0) hx hb dXM_isRight_168 (by decide) ?_
              refine lv_istore (lv' := [(7, .int 0), (6, .int 0), (5, .int 1), (0, .ref h0), (1, .long v1), (3, .int v3), (4, .int v4)]) hx hb dXM_isRight_169 hl (by decide) rfl (fun ls hl => ?_)
              obtain ⟨k, h⟩ := h
              exact sMisRight_171  C0 hK97 k I_7 J_7 cn_7 cm_7 so_7 v1 v3 v4 1 0 0 h H locs ls hP hS (lv_sub hl [3, 4, 5, 6, 2, 1, 0] rfl)
set_option maxRecDepth 100000 in
set_option maxHeartbeats 4000000 in
theorem sMisRight_37 {p : Program} {l : Launch} {e : Env} {s : State} {m : MethodId} {args : Array Value} {below : List Frame} {meth : Method} {c : Code} {D : va_G} {A : Nat → Prop} {h0 : Nat} {ad : Nat → Nat} {cI cL : ClassId} {post : Int32 → (Nat → Nat → Int32) → (Nat → Nat → Int64) → Int32 → Int64 → Int32 → Prop} (C0 : mCx p s m args meth c D A h0 ad cI cL cXM_isRight 8 (some .boolean)) {K10 : (Nat → Nat → Int32) → (Nat → Nat → Int64) → Int32 → Int64 → Int32 → Int64 → Int32 → Int32 → Prop} (hK10 : ∀ (I : Nat → Nat → Int32) (J : Nat → Nat → Int64) (cn : Int32) (cm : Int64) (so : Int32) (v1 : Int64) (v3 : Int32) (v4 : Int32), K10 I J cn cm so v1 v3 v4 → ∀ (H : Heap) (locs : List Loc) (ls : Array Slot), mW D h0 ad cI cL (I, J, cn, cm, so) H → va_S A s.heap H locs → lv_has ls 8 [(0, .ref h0), (1, .long v1), (3, .int v3), (4, .int v4)] → W p l e ({ frames := 2, cells := 0, slots := 0, locals := 48 } : Room) s m args below meth c H locs 0 0 (MQ below (va_Qi (fun (r : Int32) (u : mS) => post r u.1 u.2.1 u.2.2.1 u.2.2.2.1 u.2.2.2.2) (fxC (mW D h0 ad cI cL)) A) args s 0 0 A) (F0 m 10 ls [])) : ∀ (n : Nat) (I : Nat → Nat → Int32) (J : Nat → Nat → Int64) (cn : Int32) (cm : Int64) (so : Int32) (v1 : Int64) (v3 : Int32) (v4 : Int32) (v5 : Int32) (v6 : Int32), wMisRight_37 post K10 n I J cn cm so v1 v3 v4 v5 v6 → ∀ (H : Heap) (locs : List Loc) (ls : Array Slot), mW D h0 ad cI cL (I, J, cn, cm, so) H → va_S A s.heap H locs → lv_has ls 8 [(0, .ref h0), (1, .long v1), (3, .int v3), (4, .int v4), (5, .int v5), (6, .int v6)] → W p l e ({ frames := 2, cells := 0, slots := 0, locals := 48 } : Room) s m args below meth c H locs 0 0 (MQ below (va_Qi (fun (r : Int32) (u : mS) => post r u.1 u.2.1 u.2.2.1 u.2.2.2.1 u.2.2.2.2) (fxC (mW D h0 ad cI cL)) A) args s 0 0 A) (F0 m 37 ls []) := by
  obtain ⟨hx, hb, hr, hml, hown, hts, hlocks, hK, hN, hD⟩ := id C0
  intro n
  induction n with
  | zero => exact fun _ _ _ _ _ _ _ _ _ _ h => h.elim
  | succ n hK37 =>
    intro I J cn cm so v1 v3 v4 v5 v6 h H locs ls hP hS hl
    replace h : (vp_in 4 5 ∧ (((I 9 (Int32.toNatClampNeg 4)) ≤ v6 → (K10 I J cn cm so v1 v3 (v4 + 1))) ∧ (¬ (I 9 (Int32.toNatClampNeg 4)) ≤ v6 → ((v3 = 0 → ((wMisRight_37 post K10 n) I J cn cm so v1 0 v4 v5 (v6 + 1))) ∧ (¬ v3 = 0 → (vp_in v6 4 ∧ (wMfind (fun r21 I_21 J_21 cn_21 cm_21 so_21 => (vp_in r21 40 ∧ (wMin (fun r23 I_23 J_23 cn_23 cm_23 so_23 => ((¬ r23 = 0 → ((wMisRight_37 post K10 n) I_23 J_23 cn_23 cm_23 so_23 v1 0 v4 v5 (v6 + 1))) ∧ (r23 = 0 → ((wMisRight_37 post K10 n) I_23 J_23 cn_23 cm_23 so_23 v1 1 v4 v5 (v6 + 1))))) I_21 J_21 cn_21 cm_21 so_21 (J_21 2 (Int32.toNatClampNeg r21)) v5))) I J cn cm so (J 7 (Int32.toNatClampNeg v6))))))))) := h
    refine lv_iload hx hb dXM_isRight_37 (lv_at hl 5 rfl) ?_
    refine lv_aload_n hx hb dXM_isRight_39 rfl (lv_at hl 0 rfl) ?_
    refine mg_numbers hx hb hown hts hK hP dXM_isRight_40 ?_
    refine lv_iconst (v := 4) hx hb dXM_isRight_43 (by decide) ?_
    obtain ⟨h17, h⟩ := h
    refine ma_16 hx hb hK hP h17 dXM_isRight_44 ?_
    refine lv_icmp_ge (tgt := 88) hx hb dXM_isRight_45 (by decide) (fun c18 => ?_) (fun c18 => ?_)
    · replace h := h.1 c18
      refine lv_iinc (v := v4 + 1) (lv' := [(4, .int (v4 + 1)), (0, .ref h0), (1, .long v1), (3, .int v3), (5, .int v5), (6, .int v6)]) hx hb dXM_isRight_88 hl (k := 3) rfl rfl (by decide) rfl (fun ls hl => ?_)
      refine lv_goto (tgt := 10) hx hb dXM_isRight_91 (by decide) ?_
      exact hK10 I J cn cm so v1 v3 (v4 + 1) h H locs ls hP hS (lv_sub hl [1, 2, 3, 0] rfl)
    · replace h := h.2 c18
      refine lv_iload_n hx hb dXM_isRight_48 rfl (lv_at hl 2 rfl) ?_
      refine lv_if_eq (tgt := 80) hx hb dXM_isRight_49 (by decide) (fun c19 => ?_) (fun c19 => ?_)
      · replace h := h.1 c19
        refine lv_iconst (v := 0) hx hb dXM_isRight_80 (by decide) ?_
        refine lv_istore_n (lv' := [(3, .int 0), (0, .ref h0), (1, .long v1), (4, .int v4), (5, .int v5), (6, .int v6)]) hx hb dXM_isRight_81 rfl hl (by decide) rfl (fun ls hl => ?_)
        refine lv_iinc (v := v6 + 1) (lv' := [(6, .int (v6 + 1)), (3, .int 0), (0, .ref h0), (1, .long v1), (4, .int v4), (5, .int v5)]) hx hb dXM_isRight_82 hl (k := 5) rfl rfl (by decide) rfl (fun ls hl => ?_)
        refine lv_goto (tgt := 37) hx hb dXM_isRight_85 (by decide) ?_
        exact hK37 I J cn cm so v1 0 v4 v5 (v6 + 1) h H locs ls hP hS (lv_sub hl [2, 3, 1, 4, 5, 0] rfl)
      · replace h := h.2 c19
        refine lv_aload_n hx hb dXM_isRight_52 rfl (lv_at hl 0 rfl) ?_
        refine mg_past hx hb hown hts hK hP dXM_isRight_53 ?_
        refine lv_aload_n hx hb dXM_isRight_56 rfl (lv_at hl 0 rfl) ?_
        refine lv_aload_n hx hb dXM_isRight_57 rfl (lv_at hl 0 rfl) ?_
        refine mg_comingLink hx hb hown hts hK hP dXM_isRight_58 ?_
        refine lv_iload hx hb dXM_isRight_61 (lv_at hl 5 rfl) ?_
        obtain ⟨h20, h⟩ := h
        refine ma_17 hx hb hK hP h20 dXM_isRight_63 ?_
        refine va_calli (va_runV (As := [.long (J 7 (Int32.toNatClampNeg v6))]) (rest := [.ref (ad 7)]) ⟨hx, hb, hml, hown, hts⟩ (cMfind hD h) (fx_cwV 1 hts gw_M_84 hdXM_find ⟨Nat.le_of_ble_eq_true rfl, Nat.le_of_ble_eq_true rfl⟩) (fx_preV (m_recv hK hP) hP hK hN) rfl rfl hl.1 rfl (lv_room (Nat.le_of_ble_eq_true rfl)) dXM_isRight_64 ⟨Nat.le_of_ble_eq_true rfl, Nat.le_of_ble_eq_true rfl⟩) hS (fun _ _ q => q) (fun _ q => q) (fun r21 u t H locs ht hvm h hP hz hk hS => ?_)
        rw [fxC, ht] at hP
        obtain ⟨I_21, J_21, cn_21, cm_21, so_21⟩ := u
        dsimp only at h
        obtain ⟨h22, h⟩ := h
        refine ma_7 hx hb hK hP h22 dXM_isRight_67 ?_
        refine lv_iload hx hb dXM_isRight_68 (lv_at hl 4 rfl) ?_
        refine va_calli (va_runS (As := [.long (J_21 2 (Int32.toNatClampNeg r21)), .int v5]) (rest := []) ⟨hx, hb, hml, hown, hts⟩ (cMin hD h) (fx_cwS 2 hts gw_M_88 hdXM_in ⟨Nat.le_of_ble_eq_true rfl, Nat.le_of_ble_eq_true rfl⟩) (fx_preS hP hK hN) rfl rfl hl.1 rfl (lv_room (Nat.le_of_ble_eq_true rfl)) dXM_isRight_70 ⟨Nat.le_of_ble_eq_true rfl, Nat.le_of_ble_eq_true rfl⟩) hS (fun _ _ q => q) (fun _ q => q) (fun r23 u t H locs ht hvm h hP hz hk hS => ?_)
        rw [fxC, ht] at hP
        obtain ⟨I_23, J_23, cn_23, cm_23, so_23⟩ := u
        dsimp only at h
        refine lv_if_ne (tgt := 80) hx hb dXM_isRight_73 (by decide) (fun c24 => ?_) (fun c24 => ?_)
        · replace h := h.1 c24
          refine lv_iconst (v := 0) hx hb dXM_isRight_80 (by decide) ?_
          refine lv_istore_n (lv' := [(3, .int 0), (0, .ref h0), (1, .long v1), (4, .int v4), (5, .int v5), (6, .int v6)]) hx hb dXM_isRight_81 rfl hl (by decide) rfl (fun ls hl => ?_)
          refine lv_iinc (v := v6 + 1) (lv' := [(6, .int (v6 + 1)), (3, .int 0), (0, .ref h0), (1, .long v1), (4, .int v4), (5, .int v5)]) hx hb dXM_isRight_82 hl (k := 5) rfl rfl (by decide) rfl (fun ls hl => ?_)
          refine lv_goto (tgt := 37) hx hb dXM_isRight_85 (by decide) ?_
          exact hK37 I_23 J_23 cn_23 cm_23 so_23 v1 0 v4 v5 (v6 + 1) h H locs ls hP hS (lv_sub hl [2, 3, 1, 4, 5, 0] rfl)
        · replace h := h.2 c24
          refine lv_iconst (v := 1) hx hb dXM_isRight_76 (by decide) ?_
          refine lv_goto (tgt := 81) hx hb dXM_isRight_77 (by decide) ?_
          refine lv_istore_n (lv' := [(3, .int 1), (0, .ref h0), (1, .long v1), (4, .int v4), (5, .int v5), (6, .int v6)]) hx hb dXM_isRight_81 rfl hl (by decide) rfl (fun ls hl => ?_)
          refine lv_iinc (v := v6 + 1) (lv' := [(6, .int (v6 + 1)), (3, .int 1), (0, .ref h0), (1, .long v1), (4, .int v4), (5, .int v5)]) hx hb dXM_isRight_82 hl (k := 5) rfl rfl (by decide) rfl (fun ls hl => ?_)
          refine lv_goto (tgt := 37) hx hb dXM_isRight_85 (by decide) ?_
          exact hK37 I_23 J_23 cn_23 cm_23 so_23 v1 1 v4 v5 (v6 + 1) h H locs ls hP hS (lv_sub hl [2, 3, 1, 4, 5, 0] rfl)
set_option maxRecDepth 100000 in
set_option maxHeartbeats 4000000 in
theorem sMisRight_10 {p : Program} {l : Launch} {e : Env} {s : State} {m : MethodId} {args : Array Value} {below : List Frame} {meth : Method} {c : Code} {D : va_G} {A : Nat → Prop} {h0 : Nat} {ad : Nat → Nat} {cI cL : ClassId} {post : Int32 → (Nat → Nat → Int32) → (Nat → Nat → Int64) → Int32 → Int64 → Int32 → Prop} (C0 : mCx p s m args meth c D A h0 ad cI cL cXM_isRight 8 (some .boolean)) : ∀ (n : Nat) (I : Nat → Nat → Int32) (J : Nat → Nat → Int64) (cn : Int32) (cm : Int64) (so : Int32) (v1 : Int64) (v3 : Int32) (v4 : Int32), wMisRight_10 post  n I J cn cm so v1 v3 v4 → ∀ (H : Heap) (locs : List Loc) (ls : Array Slot), mW D h0 ad cI cL (I, J, cn, cm, so) H → va_S A s.heap H locs → lv_has ls 8 [(0, .ref h0), (1, .long v1), (3, .int v3), (4, .int v4)] → W p l e ({ frames := 2, cells := 0, slots := 0, locals := 48 } : Room) s m args below meth c H locs 0 0 (MQ below (va_Qi (fun (r : Int32) (u : mS) => post r u.1 u.2.1 u.2.2.1 u.2.2.2.1 u.2.2.2.2) (fxC (mW D h0 ad cI cL)) A) args s 0 0 A) (F0 m 10 ls []) := by
  obtain ⟨hx, hb, hr, hml, hown, hts, hlocks, hK, hN, hD⟩ := id C0
  intro n
  induction n with
  | zero => exact fun _ _ _ _ _ _ _ _ h => h.elim
  | succ n hK10 =>
    intro I J cn cm so v1 v3 v4 h H locs ls hP hS hl
    replace h : (vp_in 4 5 ∧ (((I 9 (Int32.toNatClampNeg 4)) ≤ v4 → (∃ k, wMisRight_97 post  k I J cn cm so v1 v3 0)) ∧ (¬ (I 9 (Int32.toNatClampNeg 4)) ≤ v4 → (vp_in v4 4 ∧ (wMfind (fun r5 I_5 J_5 cn_5 cm_5 so_5 => (∃ k, wMisRight_37 post (wMisRight_10 post  n) k I_5 J_5 cn_5 cm_5 so_5 v1 v3 v4 r5 0)) I J cn cm so (J 7 (Int32.toNatClampNeg v4))))))) := h
    refine lv_iload hx hb dXM_isRight_10 (lv_at hl 3 rfl) ?_
    refine lv_aload_n hx hb dXM_isRight_12 rfl (lv_at hl 0 rfl) ?_
    refine mg_numbers hx hb hown hts hK hP dXM_isRight_13 ?_
    refine lv_iconst (v := 4) hx hb dXM_isRight_16 (by decide) ?_
    obtain ⟨h2, h⟩ := h
    refine ma_16 hx hb hK hP h2 dXM_isRight_17 ?_
    refine lv_icmp_ge (tgt := 94) hx hb dXM_isRight_18 (by decide) (fun c3 => ?_) (fun c3 => ?_)
    · replace h := h.1 c3
      refine lv_iconst (v := 0) hx hb dXM_isRight_94 (by decide) ?_
      refine lv_istore (lv' := [(4, .int 0), (0, .ref h0), (1, .long v1), (3, .int v3)]) hx hb dXM_isRight_95 hl (by decide) rfl (fun ls hl => ?_)
      obtain ⟨k, h⟩ := h
      exact sMisRight_97  C0  k I J cn cm so v1 v3 0 h H locs ls hP hS (lv_sub hl [1, 2, 3, 0] rfl)
    · replace h := h.2 c3
      refine lv_aload_n hx hb dXM_isRight_21 rfl (lv_at hl 0 rfl) ?_
      refine lv_aload_n hx hb dXM_isRight_22 rfl (lv_at hl 0 rfl) ?_
      refine mg_comingLink hx hb hown hts hK hP dXM_isRight_23 ?_
      refine lv_iload hx hb dXM_isRight_26 (lv_at hl 3 rfl) ?_
      obtain ⟨h4, h⟩ := h
      refine ma_17 hx hb hK hP h4 dXM_isRight_28 ?_
      refine va_calli (va_runV (As := [.long (J 7 (Int32.toNatClampNeg v4))]) (rest := []) ⟨hx, hb, hml, hown, hts⟩ (cMfind hD h) (fx_cwV 1 hts gw_M_84 hdXM_find ⟨Nat.le_of_ble_eq_true rfl, Nat.le_of_ble_eq_true rfl⟩) (fx_preV (m_recv hK hP) hP hK hN) rfl rfl hl.1 rfl (lv_room (Nat.le_of_ble_eq_true rfl)) dXM_isRight_29 ⟨Nat.le_of_ble_eq_true rfl, Nat.le_of_ble_eq_true rfl⟩) hS (fun _ _ q => q) (fun _ q => q) (fun r5 u t H locs ht hvm h hP hz hk hS => ?_)
      rw [fxC, ht] at hP
      obtain ⟨I_5, J_5, cn_5, cm_5, so_5⟩ := u
      dsimp only at h
      refine lv_istore (lv' := [(5, .int r5), (0, .ref h0), (1, .long v1), (3, .int v3), (4, .int v4)]) hx hb dXM_isRight_32 hl (by decide) rfl (fun ls hl => ?_)
      refine lv_iconst (v := 0) hx hb dXM_isRight_34 (by decide) ?_
      refine lv_istore (lv' := [(6, .int 0), (5, .int r5), (0, .ref h0), (1, .long v1), (3, .int v3), (4, .int v4)]) hx hb dXM_isRight_35 hl (by decide) rfl (fun ls hl => ?_)
      obtain ⟨k, h⟩ := h
      exact sMisRight_37  C0 hK10 k I_5 J_5 cn_5 cm_5 so_5 v1 v3 v4 r5 0 h H locs ls hP hS (lv_sub hl [2, 3, 4, 5, 1, 0] rfl)
set_option maxRecDepth 100000 in
set_option maxHeartbeats 4000000 in
theorem sMisRight_in {p : Program} {l : Launch} {e : Env} {s : State} {m : MethodId} {args : Array Value} {below : List Frame} {meth : Method} {c : Code} {D : va_G} {A : Nat → Prop} {h0 : Nat} {ad : Nat → Nat} {cI cL : ClassId} {post : Int32 → (Nat → Nat → Int32) → (Nat → Nat → Int64) → Int32 → Int64 → Int32 → Prop} (C0 : mCx p s m args meth c D A h0 ad cI cL cXM_isRight 8 (some .boolean)) : ∀ (I : Nat → Nat → Int32) (J : Nat → Nat → Int64) (cn : Int32) (cm : Int64) (so : Int32), wMisRight post I J cn cm so → ∀ (H : Heap) (locs : List Loc) (ls : Array Slot), mW D h0 ad cI cL (I, J, cn, cm, so) H → va_S A s.heap H locs → lv_has ls 8 [(0, .ref h0)] → W p l e ({ frames := 2, cells := 0, slots := 0, locals := 48 } : Room) s m args below meth c H locs 0 0 (MQ below (va_Qi (fun (r : Int32) (u : mS) => post r u.1 u.2.1 u.2.2.1 u.2.2.2.1 u.2.2.2.2) (fxC (mW D h0 ad cI cL)) A) args s 0 0 A) (F0 m 0 ls []) := by
  obtain ⟨hx, hb, hr, hml, hown, hts, hlocks, hK, hN, hD⟩ := id C0
  intro I J cn cm so h H locs ls hP hS hl
  replace h : (wMpastOf (fun r1 I_1 J_1 cn_1 cm_1 so_1 => (∃ k, wMisRight_10 post  k I_1 J_1 cn_1 cm_1 so_1 r1 1 0)) I J cn cm so ) := h
  refine lv_aload_n hx hb dXM_isRight_0 rfl (lv_at hl 0 rfl) ?_
  refine va_calll (va_runV (As := []) (rest := []) ⟨hx, hb, hml, hown, hts⟩ (cMpastOf hD h) (fx_cwV 0 hts gw_M_92 hdXM_pastOf ⟨Nat.le_of_ble_eq_true rfl, Nat.le_of_ble_eq_true rfl⟩) (fx_preV (m_recv hK hP) hP hK hN) rfl rfl hl.1 rfl (lv_room (Nat.le_of_ble_eq_true rfl)) dXM_isRight_1 ⟨Nat.le_of_ble_eq_true rfl, Nat.le_of_ble_eq_true rfl⟩) hS (fun _ _ q => q) (fun _ q => q) (fun r1 u t H locs ht hvm h hP hz hk hS => ?_)
  rw [fxC, ht] at hP
  obtain ⟨I_1, J_1, cn_1, cm_1, so_1⟩ := u
  dsimp only at h
  refine lv_lstore_n (lv' := [(1, .long r1), (0, .ref h0)]) hx hb dXM_isRight_4 rfl hl (by decide) rfl (fun ls hl => ?_)
  refine lv_iconst (v := 1) hx hb dXM_isRight_5 (by decide) ?_
  refine lv_istore_n (lv' := [(3, .int 1), (1, .long r1), (0, .ref h0)]) hx hb dXM_isRight_6 rfl hl (by decide) rfl (fun ls hl => ?_)
  refine lv_iconst (v := 0) hx hb dXM_isRight_7 (by decide) ?_
  refine lv_istore (lv' := [(4, .int 0), (3, .int 1), (1, .long r1), (0, .ref h0)]) hx hb dXM_isRight_8 hl (by decide) rfl (fun ls hl => ?_)
  obtain ⟨k, h⟩ := h
  exact sMisRight_10  C0  k I_1 J_1 cn_1 cm_1 so_1 r1 1 0 h H locs ls hP hS (lv_sub hl [3, 2, 1, 0] rfl)
set_option maxRecDepth 100000 in
set_option maxHeartbeats 4000000 in
theorem cMisRight {l : Launch} {D : va_G} {A : Nat → Prop} {h0 : Nat} {ad : Nat → Nat} {cI cL : ClassId} (hD : mDs A h0 ad cI cL) {post : Int32 → (Nat → Nat → Int32) → (Nat → Nat → Int64) → Int32 → Int64 → Int32 → Prop} {I : Nat → Nat → Int32} {J : Nat → Nat → Int64} {cn : Int32} {cm : Int64} {so : Int32} (h : wMisRight post I J cn cm so) : Met l yXM_isRight (.code yXM_isRight cXM_isRight 8 (some .boolean) :: lg_tbl) ({ frames := 2, cells := 0, slots := 0, locals := 48 } : Room) (va_Pc [.ref h0] (fxB (mW D h0 ad cI cL (I, J, cn, cm, so)) D vwCl (mTy cI cL))) (va_Qi (fun (r : Int32) (u : mS) => post r u.1 u.2.1 u.2.2.1 u.2.2.2.1 u.2.2.2.2) (fxC (mW D h0 ad cI cL)) A) 0 0 A := by
  refine fx_start (by decide +kernel) (Nat.le_of_ble_eq_true rfl) ?_
  intro p e s m below meth c ls hx hb hr hml hown hts hlocks hnm hB hl
  exact sMisRight_in ⟨hx, hb, hr, hml, hown, hts, hlocks, hB.2.1, hB.2.2, hD⟩ I J cn cm so h _ _ ls hB.1 va_S.rf hl
noncomputable def wMdepthOf_4 (post : Int32 → (Nat → Nat → Int32) → (Nat → Nat → Int64) → Int32 → Int64 → Int32 → Prop) (n : Nat) : (Nat → Nat → Int32) → (Nat → Nat → Int64) → Int32 → Int64 → Int32 → Int32 → Int32 → Prop := Nat.rec (motive := fun _ => (Nat → Nat → Int32) → (Nat → Nat → Int64) → Int32 → Int64 → Int32 → Int32 → Int32 → Prop) (fun _ _ _ _ _ _ _ => False) (fun _ K4 I J cn cm so v1 v2 => (vp_in 4 5 ∧ (((I 9 (Int32.toNatClampNeg 4)) ≤ v2 → (post (v1 + 1) I J cn cm so)) ∧ (¬ (I 9 (Int32.toNatClampNeg 4)) ≤ v2 → (vp_in v2 4 ∧ (wMfind (fun r4 I_4 J_4 cn_4 cm_4 so_4 => (vp_in r4 40 ∧ (((I_4 5 (Int32.toNatClampNeg r4)) ≤ v1 → (K4 I_4 J_4 cn_4 cm_4 so_4 v1 (v2 + 1))) ∧ (¬ (I_4 5 (Int32.toNatClampNeg r4)) ≤ v1 → (vp_in r4 40 ∧ (K4 I_4 J_4 cn_4 cm_4 so_4 (I_4 5 (Int32.toNatClampNeg r4)) (v2 + 1))))))) I J cn cm so (J 7 (Int32.toNatClampNeg v2)))))))) n
def wMdepthOf (post : Int32 → (Nat → Nat → Int32) → (Nat → Nat → Int64) → Int32 → Int64 → Int32 → Prop) (I : Nat → Nat → Int32) (J : Nat → Nat → Int64) (cn : Int32) (cm : Int64) (so : Int32) : Prop := (∃ k, wMdepthOf_4 post  k I J cn cm so 0 0)
set_option maxRecDepth 100000 in
set_option maxHeartbeats 4000000 in
theorem sMdepthOf_4 {p : Program} {l : Launch} {e : Env} {s : State} {m : MethodId} {args : Array Value} {below : List Frame} {meth : Method} {c : Code} {D : va_G} {A : Nat → Prop} {h0 : Nat} {ad : Nat → Nat} {cI cL : ClassId} {post : Int32 → (Nat → Nat → Int32) → (Nat → Nat → Int64) → Int32 → Int64 → Int32 → Prop} (C0 : mCx p s m args meth c D A h0 ad cI cL cXM_depthOf 4 (some .int)) : ∀ (n : Nat) (I : Nat → Nat → Int32) (J : Nat → Nat → Int64) (cn : Int32) (cm : Int64) (so : Int32) (v1 : Int32) (v2 : Int32), wMdepthOf_4 post  n I J cn cm so v1 v2 → ∀ (H : Heap) (locs : List Loc) (ls : Array Slot), mW D h0 ad cI cL (I, J, cn, cm, so) H → va_S A s.heap H locs → lv_has ls 4 [(0, .ref h0), (1, .int v1), (2, .int v2)] → W p l e ({ frames := 1, cells := 0, slots := 0, locals := 24 } : Room) s m args below meth c H locs 0 0 (MQ below (va_Qi (fun (r : Int32) (u : mS) => post r u.1 u.2.1 u.2.2.1 u.2.2.2.1 u.2.2.2.2) (fxC (mW D h0 ad cI cL)) A) args s 0 0 A) (F0 m 4 ls []) := by
  obtain ⟨hx, hb, hr, hml, hown, hts, hlocks, hK, hN, hD⟩ := id C0
  intro n
  induction n with
  | zero => exact fun _ _ _ _ _ _ _ h => h.elim
  | succ n hK4 =>
    intro I J cn cm so v1 v2 h H locs ls hP hS hl
    replace h : (vp_in 4 5 ∧ (((I 9 (Int32.toNatClampNeg 4)) ≤ v2 → (post (v1 + 1) I J cn cm so)) ∧ (¬ (I 9 (Int32.toNatClampNeg 4)) ≤ v2 → (vp_in v2 4 ∧ (wMfind (fun r4 I_4 J_4 cn_4 cm_4 so_4 => (vp_in r4 40 ∧ (((I_4 5 (Int32.toNatClampNeg r4)) ≤ v1 → ((wMdepthOf_4 post  n) I_4 J_4 cn_4 cm_4 so_4 v1 (v2 + 1))) ∧ (¬ (I_4 5 (Int32.toNatClampNeg r4)) ≤ v1 → (vp_in r4 40 ∧ ((wMdepthOf_4 post  n) I_4 J_4 cn_4 cm_4 so_4 (I_4 5 (Int32.toNatClampNeg r4)) (v2 + 1))))))) I J cn cm so (J 7 (Int32.toNatClampNeg v2))))))) := h
    refine lv_iload_n hx hb dXM_depthOf_4 rfl (lv_at hl 2 rfl) ?_
    refine lv_aload_n hx hb dXM_depthOf_5 rfl (lv_at hl 0 rfl) ?_
    refine mg_numbers hx hb hown hts hK hP dXM_depthOf_6 ?_
    refine lv_iconst (v := 4) hx hb dXM_depthOf_9 (by decide) ?_
    obtain ⟨h1, h⟩ := h
    refine ma_16 hx hb hK hP h1 dXM_depthOf_10 ?_
    refine lv_icmp_ge (tgt := 52) hx hb dXM_depthOf_11 (by decide) (fun c2 => ?_) (fun c2 => ?_)
    · replace h := h.1 c2
      refine lv_iload_n hx hb dXM_depthOf_52 rfl (lv_at hl 1 rfl) ?_
      refine lv_iconst (v := 1) hx hb dXM_depthOf_53 (by decide) ?_
      refine lv_iadd hx hb dXM_depthOf_54 ?_
      exact W.iret hx hb hr (fun t ht hW => ⟨⟨_, (I, J, cn, cm, so), rfl, h, by rw [fxC, ht]; exact hP⟩, hS.F ht⟩) hS.2.2 dXM_depthOf_55 hlocks
    · replace h := h.2 c2
      refine lv_aload_n hx hb dXM_depthOf_14 rfl (lv_at hl 0 rfl) ?_
      refine lv_aload_n hx hb dXM_depthOf_15 rfl (lv_at hl 0 rfl) ?_
      refine mg_comingLink hx hb hown hts hK hP dXM_depthOf_16 ?_
      refine lv_iload_n hx hb dXM_depthOf_19 rfl (lv_at hl 2 rfl) ?_
      obtain ⟨h3, h⟩ := h
      refine ma_17 hx hb hK hP h3 dXM_depthOf_20 ?_
      refine va_calli (va_runV (As := [.long (J 7 (Int32.toNatClampNeg v2))]) (rest := []) ⟨hx, hb, hml, hown, hts⟩ (cMfind hD h) (fx_cwV 1 hts gw_M_84 hdXM_find ⟨Nat.le_of_ble_eq_true rfl, Nat.le_of_ble_eq_true rfl⟩) (fx_preV (m_recv hK hP) hP hK hN) rfl rfl hl.1 rfl (lv_room (Nat.le_of_ble_eq_true rfl)) dXM_depthOf_21 ⟨Nat.le_of_ble_eq_true rfl, Nat.le_of_ble_eq_true rfl⟩) hS (fun _ _ q => q) (fun _ q => q) (fun r4 u t H locs ht hvm h hP hz hk hS => ?_)
      rw [fxC, ht] at hP
      obtain ⟨I_4, J_4, cn_4, cm_4, so_4⟩ := u
      dsimp only at h
      refine lv_istore_n (lv' := [(3, .int r4), (0, .ref h0), (1, .int v1), (2, .int v2)]) hx hb dXM_depthOf_24 rfl hl (by decide) rfl (fun ls hl => ?_)
      refine lv_aload_n hx hb dXM_depthOf_25 rfl (lv_at hl 1 rfl) ?_
      refine mg_depth hx hb hown hts hK hP dXM_depthOf_26 ?_
      refine lv_iload_n hx hb dXM_depthOf_29 rfl (lv_at hl 0 rfl) ?_
      obtain ⟨h5, h⟩ := h
      refine ma_8 hx hb hK hP h5 dXM_depthOf_30 ?_
      refine lv_iload_n hx hb dXM_depthOf_31 rfl (lv_at hl 2 rfl) ?_
      refine lv_icmp_le (tgt := 44) hx hb dXM_depthOf_32 (by decide) (fun c6 => ?_) (fun c6 => ?_)
      · replace h := h.1 c6
        refine lv_iload_n hx hb dXM_depthOf_44 rfl (lv_at hl 2 rfl) ?_
        refine lv_istore_n (lv' := [(1, .int v1), (3, .int r4), (0, .ref h0), (2, .int v2)]) hx hb dXM_depthOf_45 rfl hl (by decide) rfl (fun ls hl => ?_)
        refine lv_iinc (v := v2 + 1) (lv' := [(2, .int (v2 + 1)), (1, .int v1), (3, .int r4), (0, .ref h0)]) hx hb dXM_depthOf_46 hl (k := 3) rfl rfl (by decide) rfl (fun ls hl => ?_)
        refine lv_goto (tgt := 4) hx hb dXM_depthOf_49 (by decide) ?_
        exact hK4 I_4 J_4 cn_4 cm_4 so_4 v1 (v2 + 1) h H locs ls hP hS (lv_sub hl [3, 1, 0] rfl)
      · replace h := h.2 c6
        refine lv_aload_n hx hb dXM_depthOf_35 rfl (lv_at hl 1 rfl) ?_
        refine mg_depth hx hb hown hts hK hP dXM_depthOf_36 ?_
        refine lv_iload_n hx hb dXM_depthOf_39 rfl (lv_at hl 0 rfl) ?_
        obtain ⟨h7, h⟩ := h
        refine ma_8 hx hb hK hP h7 dXM_depthOf_40 ?_
        refine lv_goto (tgt := 45) hx hb dXM_depthOf_41 (by decide) ?_
        refine lv_istore_n (lv' := [(1, .int (I_4 5 (Int32.toNatClampNeg r4))), (3, .int r4), (0, .ref h0), (2, .int v2)]) hx hb dXM_depthOf_45 rfl hl (by decide) rfl (fun ls hl => ?_)
        refine lv_iinc (v := v2 + 1) (lv' := [(2, .int (v2 + 1)), (1, .int (I_4 5 (Int32.toNatClampNeg r4))), (3, .int r4), (0, .ref h0)]) hx hb dXM_depthOf_46 hl (k := 3) rfl rfl (by decide) rfl (fun ls hl => ?_)
        refine lv_goto (tgt := 4) hx hb dXM_depthOf_49 (by decide) ?_
        exact hK4 I_4 J_4 cn_4 cm_4 so_4 (I_4 5 (Int32.toNatClampNeg r4)) (v2 + 1) h H locs ls hP hS (lv_sub hl [3, 1, 0] rfl)
set_option maxRecDepth 100000 in
set_option maxHeartbeats 4000000 in
theorem sMdepthOf_in {p : Program} {l : Launch} {e : Env} {s : State} {m : MethodId} {args : Array Value} {below : List Frame} {meth : Method} {c : Code} {D : va_G} {A : Nat → Prop} {h0 : Nat} {ad : Nat → Nat} {cI cL : ClassId} {post : Int32 → (Nat → Nat → Int32) → (Nat → Nat → Int64) → Int32 → Int64 → Int32 → Prop} (C0 : mCx p s m args meth c D A h0 ad cI cL cXM_depthOf 4 (some .int)) : ∀ (I : Nat → Nat → Int32) (J : Nat → Nat → Int64) (cn : Int32) (cm : Int64) (so : Int32), wMdepthOf post I J cn cm so → ∀ (H : Heap) (locs : List Loc) (ls : Array Slot), mW D h0 ad cI cL (I, J, cn, cm, so) H → va_S A s.heap H locs → lv_has ls 4 [(0, .ref h0)] → W p l e ({ frames := 1, cells := 0, slots := 0, locals := 24 } : Room) s m args below meth c H locs 0 0 (MQ below (va_Qi (fun (r : Int32) (u : mS) => post r u.1 u.2.1 u.2.2.1 u.2.2.2.1 u.2.2.2.2) (fxC (mW D h0 ad cI cL)) A) args s 0 0 A) (F0 m 0 ls []) := by
  obtain ⟨hx, hb, hr, hml, hown, hts, hlocks, hK, hN, hD⟩ := id C0
  intro I J cn cm so h H locs ls hP hS hl
  replace h : (∃ k, wMdepthOf_4 post  k I J cn cm so 0 0) := h
  refine lv_iconst (v := 0) hx hb dXM_depthOf_0 (by decide) ?_
  refine lv_istore_n (lv' := [(1, .int 0), (0, .ref h0)]) hx hb dXM_depthOf_1 rfl hl (by decide) rfl (fun ls hl => ?_)
  refine lv_iconst (v := 0) hx hb dXM_depthOf_2 (by decide) ?_
  refine lv_istore_n (lv' := [(2, .int 0), (1, .int 0), (0, .ref h0)]) hx hb dXM_depthOf_3 rfl hl (by decide) rfl (fun ls hl => ?_)
  obtain ⟨k, h⟩ := h
  exact sMdepthOf_4  C0  k I J cn cm so 0 0 h H locs ls hP hS (lv_sub hl [2, 1, 0] rfl)
set_option maxRecDepth 100000 in
set_option maxHeartbeats 4000000 in
theorem cMdepthOf {l : Launch} {D : va_G} {A : Nat → Prop} {h0 : Nat} {ad : Nat → Nat} {cI cL : ClassId} (hD : mDs A h0 ad cI cL) {post : Int32 → (Nat → Nat → Int32) → (Nat → Nat → Int64) → Int32 → Int64 → Int32 → Prop} {I : Nat → Nat → Int32} {J : Nat → Nat → Int64} {cn : Int32} {cm : Int64} {so : Int32} (h : wMdepthOf post I J cn cm so) : Met l yXM_depthOf (.code yXM_depthOf cXM_depthOf 4 (some .int) :: lg_tbl) ({ frames := 1, cells := 0, slots := 0, locals := 24 } : Room) (va_Pc [.ref h0] (fxB (mW D h0 ad cI cL (I, J, cn, cm, so)) D vwCl (mTy cI cL))) (va_Qi (fun (r : Int32) (u : mS) => post r u.1 u.2.1 u.2.2.1 u.2.2.2.1 u.2.2.2.2) (fxC (mW D h0 ad cI cL)) A) 0 0 A := by
  refine fx_start (by decide +kernel) (Nat.le_of_ble_eq_true rfl) ?_
  intro p e s m below meth c ls hx hb hr hml hown hts hlocks hnm hB hl
  exact sMdepthOf_in ⟨hx, hb, hr, hml, hown, hts, hlocks, hB.2.1, hB.2.2, hD⟩ I J cn cm so h _ _ ls hB.1 va_S.rf hl
