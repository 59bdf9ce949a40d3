/-! the law from its entry to its loop -/
theorem fx_N.of {A : Array Value} {s : State} (h : ∀ w ∈ lw_tbl, w.before A s = true) : fx_N s := by
  intro w hw hn
  have h1 := h w hw
  cases w <;> first | (simp [fx_isN] at hn; done) | exact va_Nw.of rfl h1 | (rename_i ty; cases ty <;> first | (simp [fx_isN] at hn; done) | exact va_AO.of h1)
theorem st_arrO {A : Array Value} {s : State} {C : String} (h : (Cond.arrayOver (.object C)).before A s = true) : ∃ cA : ClassId, ArrOfT s cA (.object C) ∧ va_RA s cA (.object C) := by
  obtain ⟨comp, cA, kA, h1, -, h2, h3, h4⟩ := Cond.arrayOver_spec h
  exact ⟨cA, fun n z => ⟨(fun k h => by cases h), kA, h2, comp, h3⟩, kA, comp, h2, h3, h1, h4⟩
theorem st_arrP {A : Array Value} {s : State} {ty : FieldType} (h : (Cond.arrayClass ty).before A s = true) : ∃ cA : ClassId, ArrOfT s cA ty ∧ s.vm.findClass ("[" ++ ty.toString) = some cA := by
  obtain ⟨cA, kA, comp, h1, h2, h3⟩ := Cond.arrayClass_spec h
  exact ⟨cA, fun n z => ⟨(fun k h => by cases h), kA, h2, comp, h3⟩, h1⟩
abbrev st_tm : Term := .static "java/util/ArrayList" "DEFAULTCAPACITY_EMPTY_ELEMENTDATA" "[Ljava/lang/Object;"
set_option maxRecDepth 100000 in
theorem st_all {s : State} {b : Nat} (hts0 : ∀ w ∈ lw_tbl, w.before #[Value.ref b] s = true) (hgv : (Jvm.Cond.and given_1 narrow_1).before #[Value.ref b] s = true) : ∃ (D : va_G) (ca : Nat → Nat), va_K D vwCl (kTy ca) s ∧ kE ca (fun q : Nat => s.heap.size ≤ q) s s.heap := by
  have hts : ∀ w ∈ lg_tbl, w.before #[Value.ref b] s = true := fun w h => hts0 w (List.mem_filter.mp h).1
  have hN : fx_N s := fx_N.of hts0
  have hs := flat_of_before _ hgv
  have hA : ∀ a : Nat, a < s.heap.size → ¬ (fun q : Nat => s.heap.size ≤ q) a := fun a h => Nat.not_le.mpr h
  have hlen := va_eqt (hs (.eq (.length st_tm) (.int 0)) (by decide +kernel))
  obtain ⟨tE, ht, hT⟩ := va_Tof (N := 0) (f := fun _ => .null) (ty := .object "java/lang/Object") (tm := st_tm) (by decide) (hs (.arrayOf st_tm (.object "java/lang/Object")) (by decide +kernel)) hlen (fun j hj => by omega) hA
  have hZ := va_Zof (hts0 (.laysStatic "java/util/ArrayList" "DEFAULTCAPACITY_EMPTY_ELEMENTDATA" "[Ljava/lang/Object;") (by decide +kernel)) (hts (.initialized "java/util/ArrayList") (fx_m (by decide +kernel))) ht hA
  obtain ⟨cM, m1, m2⟩ := st_arrO (hN.use (args := #[]) (w := .arrayOver (.object "HashLinkedWeb$Member")) (by decide +kernel))
  obtain ⟨cR, r1, r2⟩ := st_arrO (hN.use (args := #[]) (w := .arrayOver (.object "HashLinkedWeb$Replica")) (by decide +kernel))
  obtain ⟨cO, o1, o2⟩ := st_arrO (hN.use (args := #[]) (w := .arrayOver (.object "java/lang/Object")) (by decide +kernel))
  obtain ⟨cL, l1, l2⟩ := st_arrP (hts (.arrayClass .long) (fx_m (by decide +kernel)))
  obtain ⟨cI, i1, i2⟩ := st_arrP (hts (.arrayClass .int) (fx_m (by decide +kernel)))
  obtain ⟨c0, j0, k0⟩ := u_known (C := RXM) (T := TXM) (N := 22) (n := 22) hts mi_all (hts (.instantiable RXM 22) (fx_m (by decide +kernel)))
  obtain ⟨c1, j1, k1⟩ := u_known (C := RXW) (T := TXW) (N := 4) (n := 4) hts ki_XW (hts (.instantiable RXW 4) (fx_m (by decide +kernel)))
  obtain ⟨c2, j2, k2⟩ := u_known (C := RXKn) (T := TXKn) (N := 1) (n := 1) hts ki_XKn (hts (.instantiable RXKn 1) (fx_m (by decide +kernel)))
  obtain ⟨c3, j3, k3⟩ := u_known (C := RXRo) (T := TXRo) (N := 2) (n := 2) hts ki_XRo (hts (.instantiable RXRo 2) (fx_m (by decide +kernel)))
  obtain ⟨c4, j4, k4⟩ := u_known (C := RXRe) (T := TXRe) (N := 5) (n := 5) hts ki_XRe (hts (.instantiable RXRe 5) (fx_m (by decide +kernel)))
  obtain ⟨c5, j5, k5⟩ := u_known (C := RXOp) (T := TXOp) (N := 6) (n := 6) hts ki_XOp (hts (.instantiable RXOp 6) (fx_m (by decide +kernel)))
  obtain ⟨c6, j6, k6⟩ := u_known (C := RXDr) (T := TXDr) (N := 6) (n := 6) hts ki_XDr (hts (.instantiable RXDr 6) (fx_m (by decide +kernel)))
  obtain ⟨c7, j7, k7⟩ := u_known (C := RXMe) (T := TXMe) (N := 5) (n := 5) hts ki_XMe (hts (.instantiable RXMe 5) (fx_m (by decide +kernel)))
  obtain ⟨c8, j8, k8⟩ := u_known (C := RXAs) (T := TXAs) (N := 5) (n := 5) hts ki_XAs (hts (.instantiable RXAs 5) (fx_m (by decide +kernel)))
  obtain ⟨c9, j9, k9⟩ := u_known (C := RXAL) (T := TXAL) (N := 3) (n := 3) hts ki_XAL (hts (.instantiable RXAL 3) (fx_m (by decide +kernel)))
  refine ⟨(fun k => match k with | 0 => c0 | 1 => c1 | 2 => c2 | 3 => c3 | 4 => c4 | 5 => c5 | 6 => c6 | 7 => c7 | 8 => c8 | _ => c9, fun k => match k with | 0 => j0 | 1 => j1 | 2 => j2 | 3 => j3 | 4 => j4 | 5 => j5 | 6 => j6 | 7 => j7 | 8 => j8 | _ => j9), fun k => match k with | 0 => cM | 1 => cR | 2 => cL | 3 => cO | 5 => tE | 6 => cI | _ => 0, ⟨?_, ?_⟩, hT, hZ⟩
  · intro k q hq
    match k, hq with
    | 0, hq => cases hq; exact k0
    | 1, hq => cases hq; exact k1
    | 2, hq => cases hq; exact k2
    | 3, hq => cases hq; exact k3
    | 4, hq => cases hq; exact k4
    | 5, hq => cases hq; exact k5
    | 6, hq => cases hq; exact k6
    | 7, hq => cases hq; exact k7
    | 8, hq => cases hq; exact k8
    | 9, hq => cases hq; exact k9
    | k + 10, hq => simp [vwCl] at hq
  · intro k q hq
    match k, hq with
    | 0, hq => cases hq; exact ⟨m1, m2⟩
    | 1, hq => cases hq; exact ⟨r1, r2⟩
    | 2, hq => cases hq; exact ⟨l1, l2⟩
    | 3, hq => cases hq; exact ⟨o1, o2⟩
    | 4, hq => cases hq; exact ⟨o1, o2⟩
    | 5, hq => cases hq; exact ⟨o1, o2⟩
    | 6, hq => cases hq; exact ⟨i1, i2⟩
    | k + 7, hq => simp [kTy] at hq
/-- the reference's cells in a world, and the world without them -/
def lSplit (w4 : fh_T) (h0 : Nat) (ad : Nat → Nat) (w5 : fh_T) : Prop := (∀ (k : Nat) (q : Nat × fh_E), (mw1 h0 ad)[k]? = some q → w4 q.1 = some q.2) ∧ (∀ (i j : Nat) (p q : Nat × fh_E), (mw1 h0 ad)[i]? = some p → (mw1 h0 ad)[j]? = some q → p.1 = q.1 → i = j) ∧ (∀ q : Nat, mA h0 ad q → w5 q = none) ∧ ∀ q : Nat, ¬ mA h0 ad q → w5 q = w4 q
theorem mw1_fst {h0 : Nat} {ad : Nat → Nat} {cI cL : ClassId} {u : mS} {k : Nat} {q : Nat × va_E} (h : (mw h0 ad cI cL u)[k]? = some q) : ∃ p : Nat × fh_E, (mw1 h0 ad)[k]? = some p ∧ p.1 = q.1 := by
  have e : (mw h0 ad cI cL u).map (·.1) = (mw1 h0 ad).map (·.1) := rfl
  have h1 : ((mw h0 ad cI cL u).map (·.1))[k]? = some q.1 := by rw [List.getElem?_map, h]; rfl
  rw [e, List.getElem?_map] at h1
  cases hp : (mw1 h0 ad)[k]? with
  | none => rw [hp] at h1; cases h1
  | some p => rw [hp] at h1; exact ⟨p, rfl, Option.some.inj h1⟩
theorem mw1_fz {h0 : Nat} {ad : Nat → Nat} {k : Nat} {q : Nat × fh_E} (h : (mw1 h0 ad)[k]? = some q) : fh_fz q.2 = false := by
  have hm := List.mem_of_getElem? h
  simp only [mw1, List.mem_cons, List.not_mem_nil, or_false] at hm
  rcases hm with rfl | rfl | rfl | rfl | rfl | rfl | rfl | rfl | rfl | rfl | rfl | rfl | rfl | rfl | rfl | rfl | rfl | rfl | rfl | rfl <;> rfl
theorem l_split {D : va_G} {ca : Nat → Nat} {A : Nat → Prop} {w4 w5 : fh_T} {h0 : Nat} {ad : Nat → Nat} {H : Heap} (hP : fh_ok D ca A w4 H) (h : lSplit w4 h0 ad w5) : lW D ca A h0 ad w5 (fun _ _ => 0, fun _ _ => 0, 0, 0, 0) H := by
  obtain ⟨h1, h2, h3, h4⟩ := h
  have e : mw h0 ad (ca 6) (ca 2) (fun _ _ => 0, fun _ _ => 0, 0, 0, 0) = (mw1 h0 ad).map (fun q => (q.1, fh_cv ca q.2)) := rfl
  refine ⟨fun a ea ha => ?_, fun k q hq => ?_, fun u => ⟨fun i j p q hp hq hpq => ?_, fun k q hq => ?_⟩, fun q ea hq _ hm => ?_⟩
  · by_cases hm : mA h0 ad a
    · rw [h3 a hm] at ha; cases ha
    · rw [h4 a hm] at ha
      exact hP a ea ha
  · rw [e, List.getElem?_map] at hq
    cases hp : (mw1 h0 ad)[k]? with
    | none => rw [hp] at hq; cases hq
    | some p =>
      rw [hp] at hq
      cases hq
      exact ((hP p.1 p.2 (h1 k p hp)).2 (mw1_fz hp)).2
  · obtain ⟨p', hp', ep⟩ := mw1_fst hp
    obtain ⟨q', hq', eq⟩ := mw1_fst hq
    exact h2 i j p' q' hp' hq' (by rw [ep, eq]; exact hpq)
  · obtain ⟨q', hq', eq⟩ := mw1_fst hq
    rw [← eq]
    exact ((hP q'.1 q'.2 (h1 k q' hq')).2 (mw1_fz hq')).1
  · rw [h3 q hm] at hq
    cases hq
abbrev fh_mark : fh_E := .inl (4, 0, .inr (.inr (.inr (.inr (fun _ => none)))))
/-- what is left to show of the start: pure -/
def lwStart (xs : Nat → Int32) (L : Nat) : Prop := ∀ (w0 : fh_T) (t : Nat), w0 = (fun a => if a = t then some fh_mark else none) → ∀ x0, w0 x0 = none → ∀ w1, w1 = fh_up w0 x0 (.inr (1, [.null, .null, .null, .null])) → ∃ a1 b1 a2 b2 mc ms, 600000 = 2 + a1 + a2 + mc ∧ 7302250 = 26 + b1 + b2 + ms ∧ wKXW_init (fun w2 => ∀ h0, w2 h0 = none → ∀ w3, w3 = fh_up w2 h0 (.inr (0, mw0)) → wKXM_init (fun w4 => ∃ ad w5, lSplit w4 h0 ad w5 ∧ ∃ k, wXLaw_18 (xs, L, x0) k w5 mc ms (fun _ _ => 0) (fun _ _ => 0) 0 0 0 0) w3 a2 b2 h0) w1 a1 b1 x0
set_option maxHeartbeats 4000000 in
set_option maxRecDepth 100000 in
theorem whole_of {p : Program} {e : Env} {s : State} {m : MethodId} {below : List Frame} {meth : Method} {c : Code} (l : Launch) {b L : Nat} {xs : Nat → Int32} (hpure : lwStart xs L) (C0 : lw_At p s m meth c b L xs) : W p l e room_1 s m #[Value.ref b] below meth c s.heap [] 0 0 (lw_Z below #[Value.ref b] s) (entryFrame m ([Value.ref b] : List Value).toArray 4) := by
  obtain ⟨hx, hb, hr, hml, hown, hts0, hX, hbl, hlocks, hgv⟩ := id C0
  have hts : ∀ w ∈ lg_tbl, w.before #[Value.ref b] s = true := fun w h => hts0 w (List.mem_filter.mp h).1
  have hN : fx_N s := fx_N.of hts0
  obtain ⟨D, ca, hK, hE⟩ := st_all hts0 hgv
  have hA : ∀ q : Nat, s.heap.size ≤ q → (fun q : Nat => s.heap.size ≤ q) q := fun _ h => h
  have hl := lv_entry ([.ref b]) (n := 4) (Nat.le_of_ble_eq_true rfl)
  rw [lg_entry_eq]
  generalize (lg_sl ([.ref b]) ++ List.replicate (4 - (lg_sl ([.ref b])).length) Slot.unset).toArray = ls at hl ⊢
  have hl : lv_has ls 4 [(0, .ref b)] := hl
  have hS : va_S (fun q : Nat => s.heap.size ≤ q) s.heap s.heap [] := va_S.rf
  obtain ⟨w0, ew0⟩ : ∃ y : fh_T, y = (fun a => if a = ca 5 then some fh_mark else none) := ⟨_, rfl⟩
  have hP : fh_ok D ca (fun q : Nat => s.heap.size ≤ q) w0 s.heap := by
    intro a ea ha
    rw [ew0] at ha
    by_cases h5 : a = ca 5
    · simp only [h5, if_true] at ha
      cases ha
      exact ⟨fun _ => h5, fun h => by cases h⟩
    · simp only [h5, if_false] at ha
      cases ha
  have h := hpure w0 (ca 5) ew0
  refine ko_XL_7 hx hb hown hts hK hE hP hS hA (Nat.le_of_ble_eq_true rfl) (Nat.le_of_ble_eq_true rfl) dXL_law_0 (fun x0 H hq hP hS => ?_)
  obtain ⟨w1, ew1⟩ : ∃ y, y = fh_up w0 x0 (.inr (1, [.null, .null, .null, .null])) := ⟨_, rfl⟩
  obtain ⟨a1, b1, a2, b2, mc, ms, hm1, hm2, h⟩ := h x0 hq w1 ew1
  rw [← ew1] at hP
  refine lv_dup hx hb dXL_law_3 rfl ?_
  refine va_callv (va_runI (As := []) (rest := [.ref x0]) ⟨hx, hb, hml, hown, hts⟩ (cKXW_init h) (gc_XL_9 hts hN ⟨Nat.le_of_ble_eq_true rfl, Nat.le_of_ble_eq_true rfl⟩) (k_preS hP hS hA hK hN hE) rfl rfl hl.1 rfl (lv_room (Nat.le_of_ble_eq_true rfl)) dXL_law_4 ⟨show 0 + 1 + a1 ≤ 600000 by omega, show 0 + 4 + b1 ≤ 7302250 by omega⟩) hS (fun _ _ q => q) (fun _ q => q) (fun w2 t H locs ht hvm h hP hz hk hS => ?_)
  rw [fxC, ht] at hP
  refine W.cs (cells' := 1 + a1) (slots' := 4 + b1) (by show 0 + 1 + a1 = 1 + a1; omega) (by show 0 + 4 + b1 = 4 + b1; omega) ?_
  refine lv_astore_n (lv' := [(1, .ref x0), (0, .ref b)]) hx hb dXL_law_7 rfl hl (by decide) rfl (fun ls hl => ?_)
  refine ko_XL_10 hx hb hown hts hK hE hP hS hA (show 1 + a1 + 1 ≤ 600000 by omega) (show 4 + b1 + 22 ≤ 7302250 by omega) dXL_law_8 (fun h0 H hq hP hS => ?_)
  obtain ⟨w3, ew3⟩ : ∃ y, y = fh_up w2 h0 (.inr (0, mw0)) := ⟨_, rfl⟩
  replace h := h h0 hq w3 ew3
  rw [← ew3] at hP
  refine lv_dup hx hb dXL_law_11 rfl ?_
  refine va_callv (va_runI (As := []) (rest := [.ref h0]) ⟨hx, hb, hml, hown, hts⟩ (cKXM_init h) (gc_XL_12 hts hN ⟨Nat.le_of_ble_eq_true rfl, Nat.le_of_ble_eq_true rfl⟩) (k_preS hP hS hA hK hN hE) rfl rfl hl.1 rfl (lv_room (Nat.le_of_ble_eq_true rfl)) dXL_law_12 ⟨show 1 + a1 + 1 + a2 ≤ 600000 by omega, show 4 + b1 + 22 + b2 ≤ 7302250 by omega⟩) hS (fun _ _ q => q) (fun _ q => q) (fun w4 t H locs ht hvm h hP hz hk hS => ?_)
  rw [fxC, ht] at hP
  obtain ⟨ad, w5, hsp, k, h⟩ := h
  refine W.cs (cells' := 2 + a1 + a2) (slots' := 26 + b1 + b2) (by show 1 + a1 + 1 + a2 = 2 + a1 + a2; omega) (by show 4 + b1 + 22 + b2 = 26 + b1 + b2; omega) ?_
  refine lv_astore_n (lv' := [(2, .ref h0), (1, .ref x0), (0, .ref b)]) hx hb dXL_law_15 rfl hl (by decide) rfl (fun ls hl => ?_)
  refine lv_iconst (v := 0) hx hb dXL_law_16 (by decide) ?_
  refine lv_istore_n (lv' := [(3, .int 0), (2, .ref h0), (1, .ref x0), (0, .ref b)]) hx hb dXL_law_17 rfl hl (by decide) rfl (fun ls hl => ?_)
  exact sXLaw_18 (post := (xs, L, x0)) ⟨C0, hK, hN, hE⟩ k w5 mc ms (fun _ _ => 0) (fun _ _ => 0) 0 0 0 0 h H locs ls (l_split hP hsp) hS (lv_sub hl [3, 2, 1, 0] rfl) _ _ (by omega) (by omega)
