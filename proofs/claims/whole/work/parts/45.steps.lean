/-! one call on both sides: the answers are the same, and both hold the same after it -/
def st (ad : Nat → Nat) (w : fh_T) (I : Nat → Nat → Int32) (J : Nat → Nat → Int64) (cn : Int32) : Prop := ∃ mb A dr, xA ad mb A dr w ∧ mR A (dr 0) I J cn
theorem rep_em (x : Int32) : (∃ r : Nat, r < 4 ∧ x = nI r) ∨ ∀ k : Nat, k < 4 → ¬ x = nI k := by
  rcases Classical.em (∃ r : Nat, r < 4 ∧ x = nI r) with h | h
  · exact Or.inl h
  · exact Or.inr (fun k hk e => h ⟨k, hk, e⟩)
section ST
variable {ad : Nat → Nat} {w : fh_T} {I : Nat → Nat → Int32} {J : Nat → Nat → Int64} {cn : Int32} {cm : Int64} {so : Int32} {C : fh_T → (Nat → Nat → Int32) → (Nat → Nat → Int64) → Int32 → Int64 → Int32 → Prop} {mc ms : Nat} {a1 a2 a3 a4 : Int32} {x : Int64}
theorem st_write {P : Int32 → fh_T → Prop} (hs : st ad w I J cn) (hC : ∀ w' I' J' cn' cm' so', st ad w' I' J' cn' → C w' I' J' cn' cm' so') (hmc : 882 ≤ mc) (hms : 8810 ≤ ms) (hP : ∀ r7 w7, wMwrite (fun r18 I' J' cn' cm' so' => (r7 = r18 → C w7 I' J' cn' cm' so') ∧ (¬ r7 = r18 → False)) I J cn cm so a1 a2 a3 a4 → P r7 w7) : wKXW_write P w mc ms (ad 0) a1 a2 a3 a4 := by
  obtain ⟨mb, A, dr, hX, hM⟩ := hs
  rcases rep_em a1 with ⟨r, hr, e⟩ | c
  · subst e
    obtain ⟨-, L, hL⟩ := xR.ex hX hr
    exact kx_write hX hr (by omega) (by omega) hL (fun mb' dr' w' e0 R' => hP _ _ (pm_write hM hr (xR.cl hX hr) hL (fun I' J' cn' cm' so' M' => ⟨fun _ => hC _ _ _ _ _ _ ⟨mb', _, dr', R', by rw [e0]; exact M'⟩, fun c => c rfl⟩)))
  · exact ⟨_, xR.web hX, kx_repN c ⟨fun _ => hP _ _ (pm_isReplica (fun _ => ⟨fun c => absurd rfl c, fun _ => ⟨fun _ => hC _ _ _ _ _ _ ⟨mb, A, dr, hX, hM⟩, fun c => c rfl⟩⟩) (fun k hk e => absurd e (c k hk))), fun y z => by cases z⟩⟩
theorem st_draft {P : fh_T → Prop} (hs : st ad w I J cn) (hC : ∀ w' I' J' cn' cm' so', st ad w' I' J' cn' → C w' I' J' cn' cm' so') (hP : ∀ w7, wMdraft (fun I' J' cn' cm' so' => C w7 I' J' cn' cm' so') I J cn cm so a1 a2 a3 a4 → P w7) : wKXW_draft P w (ad 0) a1 a2 a3 a4 := by
  obtain ⟨mb, A, dr, hX, hM⟩ := hs
  exact kx_draft hX (fun w' R' => hP _ (pm_draft hM (fun I' J' cn' cm' so' M' => hC _ _ _ _ _ _ ⟨mb, A, _, R', by rw [va_up_s]; exact M'⟩)))
theorem st_link {P : Int32 → fh_T → Prop} (hs : st ad w I J cn) (hC : ∀ w' I' J' cn' cm' so', st ad w' I' J' cn' → C w' I' J' cn' cm' so') (hP : ∀ r7 w7, wMlink (fun r18 I' J' cn' cm' so' => (r7 = r18 → C w7 I' J' cn' cm' so') ∧ (¬ r7 = r18 → False)) I J cn cm so x → P r7 w7) : wKXW_link P w (ad 0) x := by
  obtain ⟨mb, A, dr, hX, hM⟩ := hs
  refine kx_link hX (fun c => hP _ _ (pm_link hM (fun _ => ⟨fun _ => hC _ _ _ _ _ _ ⟨mb, A, dr, hX, hM⟩, fun c => c rfl⟩) (fun c2 => absurd c2 c))) (fun c w' R' => hP _ _ (pm_link hM (fun c2 => absurd c c2) (fun _ I' J' cn' cm' so' M' => ⟨fun _ => hC _ _ _ _ _ _ ⟨mb, A, _, R', by rw [va_up_s]; exact M'⟩, fun c => c rfl⟩)))
theorem st_draftHash {P : Int64 → fh_T → Prop} (hs : st ad w I J cn) (hC : ∀ w' I' J' cn' cm' so', st ad w' I' J' cn' → C w' I' J' cn' cm' so') (hmc : 882 ≤ mc) (hms : 8810 ≤ ms) (hP : ∀ r7 w7, wMdraftHash (fun r18 I' J' cn' cm' so' => (lg_cmp r7 r18 = 0 → C w7 I' J' cn' cm' so') ∧ (¬ lg_cmp r7 r18 = 0 → False)) I J cn cm so → P r7 w7) : wKXW_draftHash P w mc ms (ad 0) := by
  obtain ⟨mb, A, dr, hX, hM⟩ := hs
  exact kx_draftHash hX (by omega) (by omega) (fun w' R' => hP _ _ (pm_draftHash hM.2.2.2.2 ⟨fun _ => hC _ _ _ _ _ _ ⟨mb, A, dr, R', hM⟩, fun c => c ((lg_cmp_eq _ _).mpr rfl)⟩))
theorem st_offer {P : Int32 → fh_T → Prop} (hs : st ad w I J cn) (hC : ∀ w' I' J' cn' cm' so', st ad w' I' J' cn' → C w' I' J' cn' cm' so') (hmc : 882 ≤ mc) (hms : 8810 ≤ ms) (hP : ∀ r7 w7, wMoffer (fun r18 I' J' cn' cm' so' => (r7 = r18 → C w7 I' J' cn' cm' so') ∧ (¬ r7 = r18 → False)) I J cn cm so a1 → P r7 w7) : wKXW_offer P w mc ms (ad 0) a1 := by
  obtain ⟨mb, A, dr, hX, hM⟩ := hs
  rcases rep_em a1 with ⟨r, hr, e⟩ | c
  · subst e
    exact kx_offer hX hr (by omega) (by omega) (fun mb' w' R' => hP _ _ (pm_offer hM hr (fun I' J' cn' cm' so' M' => ⟨fun _ => hC _ _ _ _ _ _ ⟨mb', _, dr, R', M'⟩, fun c => c rfl⟩)))
  · exact ⟨_, xR.web hX, kx_repN c ⟨fun _ => hP _ _ (pm_isReplica (fun _ => ⟨fun c => absurd rfl c, fun _ => ⟨fun _ => hC _ _ _ _ _ _ ⟨mb, A, dr, hX, hM⟩, fun c => c rfl⟩⟩) (fun k hk e => absurd e (c k hk))), fun y z => by cases z⟩⟩
theorem st_meet {P : Int32 → fh_T → Prop} (hs : st ad w I J cn) (hC : ∀ w' I' J' cn' cm' so', st ad w' I' J' cn' → C w' I' J' cn' cm' so') (hmc : 882 ≤ mc) (hms : 8810 ≤ ms) (hP : ∀ r7 w7, wMmeet (fun r18 I' J' cn' cm' so' => (r7 = r18 → C w7 I' J' cn' cm' so') ∧ (¬ r7 = r18 → False)) I J cn cm so a1 a2 → P r7 w7) : wKXW_meet P w mc ms (ad 0) a1 a2 := by
  obtain ⟨mb, A, dr, hX, hM⟩ := hs
  have fin : ∀ so', C w I J cn cm so' := fun so' => hC _ _ _ _ _ _ ⟨mb, A, dr, hX, hM⟩
  rcases rep_em a1 with ⟨a, ha, e⟩ | c
  · subst e
    rcases rep_em a2 with ⟨b, hb', e⟩ | c
    · subst e
      by_cases hab : a = b
      · subst hab
        refine ⟨_, xR.web hX, kx_rep hX ha ⟨fun z => (by cases z), fun y z => ?_⟩⟩
        cases z
        refine ⟨_, xR.web hX, kx_rep hX ha ⟨fun z => (by cases z), fun y z => ⟨fun c => absurd rfl c, fun _ => hP _ _ ?_⟩⟩⟩
        exact pm_isReplica (fun c => absurd rfl (c a ha)) (fun _ _ _ => ⟨fun c => absurd c (by decide), fun _ => pm_isReplica (fun c => absurd rfl (c a ha)) (fun _ _ _ => ⟨fun c => absurd c (by decide), fun _ => ⟨fun c => absurd rfl c, fun _ => ⟨fun _ => fin _, fun c => c rfl⟩⟩⟩)⟩)
      · exact kx_meet hX ha hb' hab hmc hms (fun L1 L2 h1 h2 mb' w' R' => hP _ _ (pm_meet hM ha hb' hab (xR.cl hX ha) (xR.cl hX hb') h1 h2 (fun I' J' cn' cm' so' M' => ⟨fun _ => hC _ _ _ _ _ _ ⟨mb', _, dr, R', M'⟩, fun c => c rfl⟩)))
    · refine ⟨_, xR.web hX, kx_rep hX ha ⟨fun z => (by cases z), fun y z => ?_⟩⟩
      cases z
      refine ⟨_, xR.web hX, kx_repN c ⟨fun _ => hP _ _ ?_, fun y z => by cases z⟩⟩
      exact pm_isReplica (fun c => absurd rfl (c a ha)) (fun _ _ _ => ⟨fun c => absurd c (by decide), fun _ => pm_isReplica (fun _ => ⟨fun _ => ⟨fun _ => fin _, fun c => c rfl⟩, fun c => absurd rfl c⟩) (fun k hk e => absurd e (c k hk))⟩)
  · have done : P (-1) w := hP _ _ (pm_isReplica (fun _ => ⟨fun _ => ⟨fun _ => fin _, fun c => c rfl⟩, fun c => absurd rfl c⟩) (fun k hk e => absurd e (c k hk)))
    refine ⟨_, xR.web hX, kx_repN c ⟨fun _ => ⟨_, xR.web hX, ?_⟩, fun y z => by cases z⟩⟩
    rcases rep_em a2 with ⟨b, hb', e⟩ | c2
    · subst e
      exact kx_rep hX hb' ⟨fun _ => done, fun _ _ => done⟩
    · exact kx_repN c2 ⟨fun _ => done, fun _ _ => done⟩
theorem st_drop {P : Int32 → fh_T → Prop} (hs : st ad w I J cn) (hC : ∀ w' I' J' cn' cm' so', st ad w' I' J' cn' → C w' I' J' cn' cm' so') (hP : ∀ r7 w7, wMdrop (fun r18 I' J' cn' cm' so' => (r7 = r18 → C w7 I' J' cn' cm' so') ∧ (¬ r7 = r18 → False)) I J cn cm so a1 → P r7 w7) : wKXW_drop P w (ad 0) a1 := by
  obtain ⟨mb, A, dr, hX, hM⟩ := hs
  rcases rep_em a1 with ⟨r, hr, e⟩ | c
  · subst e
    exact kx_drop hX hr (fun w' R' => hP _ _ (pm_drop hM hr (fun I' J' cn' cm' so' M' => ⟨fun _ => hC _ _ _ _ _ _ ⟨mb, (A.1, A.2.1, A.2.2.1, va_up A.2.2.2 r []), dr, R', M'⟩, fun c => c rfl⟩)))
  · exact ⟨_, xR.web hX, kx_repN c ⟨fun _ => hP _ _ (pm_isReplica (fun _ => ⟨fun c => absurd rfl c, fun _ => ⟨fun _ => hC _ _ _ _ _ _ ⟨mb, A, dr, hX, hM⟩, fun c => c rfl⟩⟩) (fun k hk e => absurd e (c k hk))), fun y z => by cases z⟩⟩
theorem st_held {P : Int32 → fh_T → Prop} (hs : st ad w I J cn) (hC : ∀ w' I' J' cn' cm' so', st ad w' I' J' cn' → C w' I' J' cn' cm' so') (hP : ∀ r7 w7, wMheld (fun r18 I' J' cn' cm' so' => (r7 = r18 → C w7 I' J' cn' cm' so') ∧ (¬ r7 = r18 → False)) I J cn cm so a1 → P r7 w7) : wKXW_held P w (ad 0) a1 := by
  obtain ⟨mb, A, dr, hX, hM⟩ := hs
  rcases rep_em a1 with ⟨r, hr, e⟩ | c
  · subst e
    obtain ⟨⟨L, hL⟩, -⟩ := xR.ex hX hr
    exact kx_held hX hr hL (hP _ _ (pm_held hM hr (xR.cl hX hr) hL ⟨fun _ => hC _ _ _ _ _ _ ⟨mb, A, dr, hX, hM⟩, fun c => c rfl⟩))
  · exact ⟨_, xR.web hX, kx_repN c ⟨fun _ => hP _ _ (pm_isReplica (fun _ => ⟨fun _ => ⟨fun _ => hC _ _ _ _ _ _ ⟨mb, A, dr, hX, hM⟩, fun c => c rfl⟩, fun c => absurd rfl c⟩) (fun k hk e => absurd e (c k hk))), fun y z => by cases z⟩⟩
theorem st_waiting {P : Int32 → fh_T → Prop} (hs : st ad w I J cn) (hC : ∀ w' I' J' cn' cm' so', st ad w' I' J' cn' → C w' I' J' cn' cm' so') (hP : ∀ r7 w7, wMwaiting (fun r18 I' J' cn' cm' so' => (r7 = r18 → C w7 I' J' cn' cm' so') ∧ (¬ r7 = r18 → False)) I J cn cm so a1 → P r7 w7) : wKXW_waiting P w (ad 0) a1 := by
  obtain ⟨mb, A, dr, hX, hM⟩ := hs
  rcases rep_em a1 with ⟨r, hr, e⟩ | c
  · subst e
    exact kx_waiting hX hr (hP _ _ (pm_waiting hM hr ⟨fun _ => hC _ _ _ _ _ _ ⟨mb, A, dr, hX, hM⟩, fun c => c rfl⟩))
  · exact ⟨_, xR.web hX, kx_repN c ⟨fun _ => hP _ _ (pm_isReplica (fun _ => ⟨fun _ => ⟨fun _ => hC _ _ _ _ _ _ ⟨mb, A, dr, hX, hM⟩, fun c => c rfl⟩, fun c => absurd rfl c⟩) (fun k hk e => absurd e (c k hk))), fun y z => by cases z⟩⟩
theorem st_has {P : Int32 → fh_T → Prop} (hs : st ad w I J cn) (hC : ∀ w' I' J' cn' cm' so', st ad w' I' J' cn' → C w' I' J' cn' cm' so') (hP : ∀ r7 w7, wMhas (fun r18 I' J' cn' cm' so' => (r7 = r18 → C w7 I' J' cn' cm' so') ∧ (¬ r7 = r18 → False)) I J cn cm so a1 x → P r7 w7) : wKXW_has P w (ad 0) a1 x := by
  obtain ⟨mb, A, dr, hX, hM⟩ := hs
  rcases rep_em a1 with ⟨r, hr, e⟩ | c
  · subst e
    exact kx_has hX hr (hP _ _ (pm_has hM hr ⟨fun _ => hC _ _ _ _ _ _ ⟨mb, A, dr, hX, hM⟩, fun c => c rfl⟩))
  · exact ⟨_, xR.web hX, kx_repN c ⟨fun _ => hP _ _ (pm_isReplica (fun _ => ⟨fun _ => ⟨fun _ => hC _ _ _ _ _ _ ⟨mb, A, dr, hX, hM⟩, fun c => c rfl⟩, fun c => absurd rfl c⟩) (fun k hk e => absurd e (c k hk))), fun y z => by cases z⟩⟩
theorem st_memN {P : Option Nat → fh_T → Prop} {mb : Nat → Nat} {A : ho_A} {dr : Nat → ho_O} (hX : xA ad mb A dr w) (c : ∀ k : Nat, k < 4 → ¬ a1 = nI k) (h : P none w) : wKXW_memberAt P w (ad 0) a1 a2 := ⟨_, xR.web hX, kx_repN c ⟨fun _ => h, fun y z => by cases z⟩⟩
theorem st_plN {post : Int32 → (Nat → Nat → Int32) → (Nat → Nat → Int64) → Int32 → Int64 → Int32 → Prop} (c : ∀ k : Nat, k < 4 → ¬ a1 = nI k) (h : post (-1) I J cn cm so) : wMplaceOf post I J cn cm so a1 a2 := pm_isReplica (fun _ => ⟨fun c => absurd rfl c, fun _ => h⟩) (fun k hk e => absurd e (c k hk))
theorem st_hashAt {P : Int64 → fh_T → Prop} (hs : st ad w I J cn) (hC : ∀ w' I' J' cn' cm' so', st ad w' I' J' cn' → C w' I' J' cn' cm' so') (hP : ∀ r7 w7, wMhashAt (fun r18 I' J' cn' cm' so' => (lg_cmp r7 r18 = 0 → C w7 I' J' cn' cm' so') ∧ (¬ lg_cmp r7 r18 = 0 → False)) I J cn cm so a1 a2 → P r7 w7) : wKXW_hashAt P w (ad 0) a1 a2 := by
  obtain ⟨mb, A, dr, hX, hM⟩ := hs
  have fin : ∀ (y : Int64) I' cm' so', mR A (dr 0) I' J cn → (lg_cmp y y = 0 → C w I' J cn cm' so') ∧ (¬ lg_cmp y y = 0 → False) := fun y I' cm' so' M' => ⟨fun _ => hC _ _ _ _ _ _ ⟨mb, A, dr, hX, M'⟩, fun c => c ((lg_cmp_eq _ _).mpr rfl)⟩
  rcases rep_em a1 with ⟨r, hr, e⟩ | c
  · subst e
    obtain ⟨⟨L, hL⟩, -⟩ := xR.ex hX hr
    have hl := xA.len hX hr hL
    have no : ∀ {k : Nat}, k < L.length → a2 = nI k → ¬ (a2 < 0 ∨ ¬ a2 < nI L.length) := fun {k} hk e => by
      rw [e]
      rintro (z | z)
      · exact nI_pos (by omega) z
      · exact z (nI_lt hk (by omega))
    refine kx_hashAt hX hr hL (fun c => hP _ _ (pm_hashAt hM hr (xR.cl hX hr) hL (fun _ I' so' M' => fin _ I' _ so' M') (fun k hk e => absurd c (no hk e)))) (fun k hk e => hP _ _ (pm_hashAt hM hr (xR.cl hX hr) hL (fun c => absurd c (no hk e)) (fun k' hk' e' I' so' M' => ?_)))
    have ek : k = k' := (nI_eq (by omega) (by omega)).mp (e.symm.trans e')
    subst ek
    exact fin _ I' _ so' M'
  · exact ⟨_, xR.web hX, st_memN hX c ⟨fun _ => hP _ _ (st_plN c ⟨fun z => absurd z (by decide), fun _ => fin _ I _ _ hM⟩), fun y z => by cases z⟩⟩
theorem st_about {P : Int32 → fh_T → Prop} (hs : st ad w I J cn) (hC : ∀ w' I' J' cn' cm' so', st ad w' I' J' cn' → C w' I' J' cn' cm' so') (hP : ∀ r7 w7, wMabout (fun r18 I' J' cn' cm' so' => (r7 = r18 → C w7 I' J' cn' cm' so') ∧ (¬ r7 = r18 → False)) I J cn cm so a1 a2 a3 → P r7 w7) : wKXW_about P w (ad 0) a1 a2 a3 := by
  obtain ⟨mb, A, dr, hX, hM⟩ := hs
  have fin : ∀ (y : Int32) I' cm' so', mR A (dr 0) I' J cn → (y = y → C w I' J cn cm' so') ∧ (¬ y = y → False) := fun y I' cm' so' M' => ⟨fun _ => hC _ _ _ _ _ _ ⟨mb, A, dr, hX, M'⟩, fun c => c rfl⟩
  rcases rep_em a1 with ⟨r, hr, e⟩ | c
  · subst e
    obtain ⟨⟨L, hL⟩, -⟩ := xR.ex hX hr
    have hl := xA.len hX hr hL
    have no : ∀ {k : Nat}, k < L.length → a2 = nI k → ¬ (a2 < 0 ∨ ¬ a2 < nI L.length) := fun {k} hk e => by
      rw [e]
      rintro (z | z)
      · exact nI_pos (by omega) z
      · exact z (nI_lt hk (by omega))
    refine kx_about hX hr hL (fun c => hP _ _ (pm_about hM hr (xR.cl hX hr) hL (fun _ I' so' M' => fin _ I' _ so' M') (fun k hk e => absurd c (no hk e)))) (fun k hk e => hP _ _ (pm_about hM hr (xR.cl hX hr) hL (fun c => absurd c (no hk e)) (fun k' hk' e' I' so' M' => ?_)))
    have ek : k = k' := (nI_eq (by omega) (by omega)).mp (e.symm.trans e')
    subst ek
    exact fin _ I' _ so' M'
  · exact ⟨_, xR.web hX, st_memN hX c ⟨fun _ => hP _ _ (st_plN c ⟨fun _ => fin _ I _ _ hM, fun z => absurd (by decide) z⟩), fun y z => by cases z⟩⟩
theorem st_linkAt {P : Int64 → fh_T → Prop} (hs : st ad w I J cn) (hC : ∀ w' I' J' cn' cm' so', st ad w' I' J' cn' → C w' I' J' cn' cm' so') (hP : ∀ r7 w7, wMlinkAt (fun r18 I' J' cn' cm' so' => (lg_cmp r7 r18 = 0 → C w7 I' J' cn' cm' so') ∧ (¬ lg_cmp r7 r18 = 0 → False)) I J cn cm so a1 a2 a3 → P r7 w7) : wKXW_linkAt P w (ad 0) a1 a2 a3 := by
  obtain ⟨mb, A, dr, hX, hM⟩ := hs
  have fin : ∀ (y : Int64) I' cm' so', mR A (dr 0) I' J cn → (lg_cmp y y = 0 → C w I' J cn cm' so') ∧ (¬ lg_cmp y y = 0 → False) := fun y I' cm' so' M' => ⟨fun _ => hC _ _ _ _ _ _ ⟨mb, A, dr, hX, M'⟩, fun c => c ((lg_cmp_eq _ _).mpr rfl)⟩
  rcases rep_em a1 with ⟨r, hr, e⟩ | c
  · subst e
    obtain ⟨⟨L, hL⟩, -⟩ := xR.ex hX hr
    have hl := xA.len hX hr hL
    have hok := xR.ok hX
    have no : ∀ {k : Nat}, k < L.length → a2 = nI k → ¬ (a2 < 0 ∨ ¬ a2 < nI L.length) := fun {k} hk e => by
      rw [e]
      rintro (z | z)
      · exact nI_pos (by omega) z
      · exact z (nI_lt hk (by omega))
    have ln : ∀ {k : Nat}, k < L.length → (A.1 (L.getD k 0)).1.2.2.length ≤ 4 := fun {k} hk => (hok.2.2 _ ((xR.cl hX hr) _ ((hL.1 _).mp (getD_mem hk))).1).2.2.2.2.2
    have eqk : ∀ {k k' : Nat}, k < L.length → k' < L.length → a2 = nI k → a2 = nI k' → k = k' := fun {k k'} h1 h2 e1 e2 => (nI_eq (by omega) (by omega)).mp (e1.symm.trans e2)
    have no2 : ∀ {k j : Nat}, k < L.length → j < (A.1 (L.getD k 0)).1.2.2.length → a3 = nI j → ¬ (a3 < 0 ∨ ¬ a3 < nI (A.1 (L.getD k 0)).1.2.2.length) := fun {k j} hk hj e => by
      have := ln hk
      rw [e]
      rintro (z | z)
      · exact nI_pos (by omega) z
      · exact z (nI_lt hj (by omega))
    refine kx_linkAt hX hr hL (fun c => hP _ _ (pm_linkAt hM hr (xR.cl hX hr) hL (fun _ I' so' M' => fin _ I' _ so' M') (fun k hk e => absurd c (no hk e)) (fun k hk e => absurd c (no hk e)))) (fun k hk e c => hP _ _ (pm_linkAt hM hr (xR.cl hX hr) hL (fun c => absurd c (no hk e)) (fun k' hk' e' _ I' so' M' => fin _ I' _ so' M') (fun k' hk' e' j hj ej => ?_))) (fun k hk e j hj ej => hP _ _ (pm_linkAt hM hr (xR.cl hX hr) hL (fun c => absurd c (no hk e)) (fun k' hk' e' c => ?_) (fun k' hk' e' j' hj' ej' I' so' M' => ?_)))
    · have ek := eqk hk hk' e e'
      subst ek
      exact absurd c (no2 hk hj ej)
    · have ek := eqk hk hk' e e'
      subst ek
      exact absurd c (no2 hk hj ej)
    · have ek := eqk hk hk' e e'
      subst ek
      have := ln hk
      have ej2 : j = j' := (nI_eq (by omega) (by omega)).mp (ej.symm.trans ej')
      subst ej2
      exact fin _ I' _ so' M'
  · exact ⟨_, xR.web hX, st_memN hX c ⟨fun _ => hP _ _ (st_plN c ⟨fun _ => fin _ I _ _ hM, fun z => absurd (by decide) z⟩), fun y z => by cases z⟩⟩
theorem st_heads {P : Int32 → fh_T → Prop} (hs : st ad w I J cn) (hC : ∀ w' I' J' cn' cm' so', st ad w' I' J' cn' → C w' I' J' cn' cm' so') (hP : ∀ r7 w7, wMheads (fun r18 I' J' cn' cm' so' => (r7 = r18 → C w7 I' J' cn' cm' so') ∧ (¬ r7 = r18 → False)) I J cn cm so a1 → P r7 w7) : wKXW_heads P w (ad 0) a1 := by
  obtain ⟨mb, A, dr, hX, hM⟩ := hs
  rcases rep_em a1 with ⟨r, hr, e⟩ | c
  · subst e
    obtain ⟨-, L, hL⟩ := xR.ex hX hr
    exact kx_heads hX hr hL (hP _ _ (pm_heads hM hr (xR.cl hX hr) hL ⟨fun _ => hC _ _ _ _ _ _ ⟨mb, A, dr, hX, hM⟩, fun c => c rfl⟩))
  · exact ⟨_, xR.web hX, kx_repN c ⟨fun _ => hP _ _ (pm_isReplica (fun _ => ⟨fun _ => ⟨fun _ => hC _ _ _ _ _ _ ⟨mb, A, dr, hX, hM⟩, fun c => c rfl⟩, fun c => absurd rfl c⟩) (fun k hk e => absurd e (c k hk))), fun y z => by cases z⟩⟩
theorem st_headAt {P : Int64 → fh_T → Prop} (hs : st ad w I J cn) (hC : ∀ w' I' J' cn' cm' so', st ad w' I' J' cn' → C w' I' J' cn' cm' so') (hP : ∀ r7 w7, wMheadAt (fun r18 I' J' cn' cm' so' => (lg_cmp r7 r18 = 0 → C w7 I' J' cn' cm' so') ∧ (¬ lg_cmp r7 r18 = 0 → False)) I J cn cm so a1 a2 → P r7 w7) : wKXW_headAt P w (ad 0) a1 a2 := by
  obtain ⟨mb, A, dr, hX, hM⟩ := hs
  have fin : ∀ (y : Int64) I' cm' so', mR A (dr 0) I' J cn → (lg_cmp y y = 0 → C w I' J cn cm' so') ∧ (¬ lg_cmp y y = 0 → False) := fun y I' cm' so' M' => ⟨fun _ => hC _ _ _ _ _ _ ⟨mb, A, dr, hX, M'⟩, fun c => c ((lg_cmp_eq _ _).mpr rfl)⟩
  rcases rep_em a1 with ⟨r, hr, e⟩ | c
  · subst e
    obtain ⟨-, L, hL⟩ := xR.ex hX hr
    have hl := (xR.hds hX hr hL).1.2.1
    have no : ∀ {k : Nat}, k < L.length → a2 = nI k → ¬ (a2 < 0 ∨ ¬ a2 < nI L.length) := fun {k} hk e => by
      rw [e]
      rintro (z | z)
      · exact nI_pos (by omega) z
      · exact z (nI_lt hk (by omega))
    refine kx_headAt hX hr hL (fun c => hP _ _ (pm_headAt hM hr (xR.cl hX hr) hL (fun _ I' so' M' => fin _ I' _ so' M') (fun k hk e => absurd c (no hk e)))) (fun k hk e => hP _ _ (pm_headAt hM hr (xR.cl hX hr) hL (fun c => absurd c (no hk e)) (fun k' hk' e' I' so' M' => ?_)))
    have ek : k = k' := (nI_eq (by omega) (by omega)).mp (e.symm.trans e')
    subst ek
    exact fin _ I' _ so' M'
  · exact ⟨_, xR.web hX, kx_repN c ⟨fun _ => hP _ _ (pm_isReplica (fun _ => ⟨fun c => absurd rfl c, fun _ => fin _ I _ _ hM⟩) (fun k hk e => absurd e (c k hk))), fun y z => by cases z⟩⟩
theorem st_value {P : Int32 → fh_T → Prop} (hs : st ad w I J cn) (hC : ∀ w' I' J' cn' cm' so', st ad w' I' J' cn' → C w' I' J' cn' cm' so') (hP : ∀ r7 w7, wMvalue (fun r18 I' J' cn' cm' so' => (r7 = r18 → C w7 I' J' cn' cm' so') ∧ (¬ r7 = r18 → False)) I J cn cm so a1 a2 → P r7 w7) : wKXW_value P w (ad 0) a1 a2 := by
  obtain ⟨mb, A, dr, hX, hM⟩ := hs
  have fin : ∀ (y : Int32) I' cm' so', mR A (dr 0) I' J cn → (y = y → C w I' J cn cm' so') ∧ (¬ y = y → False) := fun y I' cm' so' M' => ⟨fun _ => hC _ _ _ _ _ _ ⟨mb, A, dr, hX, M'⟩, fun c => c rfl⟩
  rcases rep_em a1 with ⟨r, hr, e⟩ | c
  · subst e
    obtain ⟨⟨L, hL⟩, -⟩ := xR.ex hX hr
    exact kx_value hX hr hL (fun c => hP _ _ (pm_value hM hr (xR.cl hX hr) hL (fun _ => fin _ I _ _ hM) (fun c1 c2 => absurd c (fun z => z.elim c1 (fun z => z c2))))) (fun c1 c2 => hP _ _ (pm_value hM hr (xR.cl hX hr) hL (fun c => absurd c (fun z => z.elim c1 (fun z => z c2))) (fun _ _ I' so' M' => fin _ I' _ so' M')))
  · exact ⟨_, xR.web hX, kx_repN c ⟨fun _ => hP _ _ (pm_isReplica (fun _ => ⟨fun _ => fin _ I _ _ hM, fun c => absurd rfl c⟩) (fun k hk e => absurd e (c k hk))), fun y z => by cases z⟩⟩
theorem st_all2 {P : Int32 → fh_T → Prop} (hs : st ad w I J cn) (hC : ∀ w' I' J' cn' cm' so', st ad w' I' J' cn' → C w' I' J' cn' cm' so') (hP : ∀ r7 w7, wMall (fun r18 I' J' cn' cm' so' => (r7 = r18 → C w7 I' J' cn' cm' so') ∧ (¬ r7 = r18 → False)) I J cn cm so → P r7 w7) : wKXW_all P w (ad 0) := by
  obtain ⟨mb, A, dr, hX, hM⟩ := hs
  refine kx_all hX (hP _ _ ⟨fun _ => hC _ _ _ _ _ _ ⟨mb, A, dr, hX, hM⟩, fun c => c ?_⟩)
  exact hM.kn.2.1.symm
end ST
