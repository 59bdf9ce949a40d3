/-! the reference: going to wait; arriving -/
theorem ho_app {wt : List ho_O} {o : ho_O} {i : Nat} (h : i < (wt ++ [o]).length) : (wt ++ [o]).getD i ho_O0 = if i < wt.length then wt.getD i ho_O0 else o := by
  rw [List.getD_eq_getElem?_getD]
  by_cases q : i < wt.length
  · rw [List.getElem?_append_left q, if_pos q, List.getD_eq_getElem?_getD]
  · rw [List.length_append, List.length_singleton] at h
    rw [List.getElem?_append_right (by omega), if_neg q, show i - wt.length = 0 by omega]
    rfl
theorem ho_any {wt : List ho_O} {x : Int64} : wt.any (fun y => y.1 == x) = true ↔ ∃ i, i < wt.length ∧ (wt.getD i ho_O0).1 = x := by
  rw [List.any_eq_true]
  constructor
  · rintro ⟨y, hy, h⟩
    obtain ⟨i, hi⟩ := List.getElem?_of_mem hy
    refine ⟨i, (List.getElem?_eq_some_iff.mp hi).1, ?_⟩
    rw [List.getD_eq_getElem?_getD, hi]
    exact beq_iff_eq.mp h
  · rintro ⟨i, hi, h⟩
    refine ⟨wt[i], List.getElem_mem hi, ?_⟩
    rw [List.getD_eq_getElem?_getD, List.getElem?_eq_getElem hi] at h
    exact beq_iff_eq.mpr h
section MP7
variable {I : Nat → Nat → Int32} {J : Nat → Nat → Int64} {cn : Int32} {cm : Int64} {so : Int32}
theorem pm_w112 {post : (Nat → Nat → Int32) → (Nat → Nat → Int64) → Int32 → Int64 → Int32 → Prop} {r a : Nat} (hr : r < 4) (ha : a < 24) (h : ∀ J', (∀ k, k ≠ 5 → J' k = J k) → (∀ b, b < 4 * a ∨ 4 * a + 4 ≤ b → J' 5 b = J 5 b) → (∀ j, j < 4 → J' 5 (4 * a + j) = J 7 j) → (¬ (mi_up I 6 r (I 6 r + 1)) 6 r = 6 → post (mi_up I 6 r (I 6 r + 1)) J' cn cm so) ∧ ((mi_up I 6 r (I 6 r + 1)) 6 r = 6 → wMleave post (mi_up I 6 r (I 6 r + 1)) J' cn cm so (nI r) 0)) : ∀ d k J', k + d = 4 → (∀ b, b ≠ 5 → J' b = J b) → (∀ b, b < 4 * a ∨ 4 * a + k ≤ b → J' 5 b = J 5 b) → (∀ j, j < k → J' 5 (4 * a + j) = J 7 j) → wMwaitAt_112 post (d + 1) I J' cn cm so (nI r) (nI a) (nI k) := by
  intro d
  induction d with
  | zero =>
    intro k J' hk h1 h2 h3
    have e : k = 4 := by omega
    subst e
    rw [wMwaitAt_112_s, l4 (by omega), tN (show r < 2 ^ 31 by omega)]
    refine ⟨fun _ => ⟨vp_in_nI hr (by omega), vp_in_nI hr (by omega), fun I17 e17 => ⟨vp_in_nI hr (by omega), ?_⟩⟩, fun c => by omega⟩
    rw [e17]
    exact h J' h1 h2 h3
  | succ d ih =>
    intro k J' hk h1 h2 h3
    rw [wMwaitAt_112_s, l4 (by omega), n4]
    refine ⟨fun c => by omega, fun _ => ⟨vp_in_nI (by omega) (by omega), vp_in_nI (by omega) (by omega), fun J2 e2 => ?_⟩⟩
    rw [tN (show 4 * a + k < 2 ^ 31 by omega), tN (show k < 2 ^ 31 by omega)] at e2
    rw [nI_1 k]
    refine ih (k + 1) J2 (by omega) (fun b hb => by rw [e2, mj_n hb, h1 b hb]) (fun b hb => ?_) (fun j hj => ?_)
    · rw [e2, mj_s, pk_uLn (by omega)]
      exact h2 b (by omega)
    · rw [e2, mj_s]
      by_cases hjk : j = k
      · rw [hjk, pk_uLs, h1 7 (by decide)]
      · rw [pk_uLn (by omega), h3 j (by omega)]
theorem pm_w79 {post : (Nat → Nat → Int32) → (Nat → Nat → Int64) → Int32 → Int64 → Int32 → Prop} {r a : Nat} (ha : a < 24) (h : ∀ I', (∀ k, k ≠ 7 → I' k = I k) → (∀ b, b < 5 * a ∨ 5 * a + 5 ≤ b → I' 7 b = I 7 b) → (∀ j, j < 5 → I' 7 (5 * a + j) = I 9 j) → ∃ k, wMwaitAt_112 post k I' J cn cm so (nI r) (nI a) 0) : ∀ d k I', k + d = 5 → (∀ b, b ≠ 7 → I' b = I b) → (∀ b, b < 5 * a ∨ 5 * a + k ≤ b → I' 7 b = I 7 b) → (∀ j, j < k → I' 7 (5 * a + j) = I 9 j) → wMwaitAt_79 post (d + 1) I' J cn cm so (nI r) (nI a) (nI k) := by
  intro d
  induction d with
  | zero =>
    intro k I' hk h1 h2 h3
    have e : k = 5 := by omega
    subst e
    rw [wMwaitAt_79_s, l5 (by omega)]
    exact ⟨fun _ => h I' h1 h2 h3, fun c => by omega⟩
  | succ d ih =>
    intro k I' hk h1 h2 h3
    rw [wMwaitAt_79_s, l5 (by omega), n5]
    refine ⟨fun c => by omega, fun _ => ⟨vp_in_nI (by omega) (by omega), vp_in_nI (by omega) (by omega), fun I2 e2 => ?_⟩⟩
    rw [tN (show 5 * a + k < 2 ^ 31 by omega), tN (show k < 2 ^ 31 by omega)] at e2
    rw [nI_1 k]
    refine ih (k + 1) I2 (by omega) (fun b hb => by rw [e2, mi_n hb, h1 b hb]) (fun b hb => ?_) (fun j hj => ?_)
    · rw [e2, mi_s, pk_un (by omega)]
      exact h2 b (by omega)
    · rw [e2, mi_s]
      by_cases hjk : j = k
      · rw [hjk, pk_us, h1 9 (by decide)]
      · rw [pk_un (by omega), h3 j (by omega)]
theorem pm_wput {post : (Nat → Nat → Int32) → (Nat → Nat → Int64) → Int32 → Int64 → Int32 → Prop} {r : Nat} {wt : List ho_O} {o : ho_O} (hr : r < 4) (hl : wt.length ≤ 5) (hw : mWt I J r wt) (ho : mNum (I 9) (J 7) o) (hcm : cm = o.1) (h : ∀ I' J', mFw I J I' J' r → mWt I' J' r (if 5 < (wt ++ [o]).length then (wt ++ [o]).eraseIdx 0 else wt ++ [o]) → post I' J' cn cm so) : ∀ J6, J6 = mj_up J 4 (6 * r + wt.length) cm → ∃ k, wMwaitAt_79 post k I J6 cn cm so (nI r) (nI (6 * r + wt.length)) 0 := by
  intro J6 e6
  have hla : (wt ++ [o]).length = wt.length + 1 := by rw [List.length_append]; rfl
  refine ⟨_, pm_w79 (I := I) (by omega) (fun I' g1 g2 g3 => ⟨_, pm_w112 (J := J6) hr (by omega) (fun J' k1 k2 k3 => ?_) 4 0 J6 (by omega) (fun _ _ => rfl) (fun _ _ => rfl) (fun j hj => by omega)⟩) 5 0 I (by omega) (fun _ _ => rfl) (fun _ _ => rfl) (fun j hj => by omega)⟩
  have e66 : I' 6 r = nI wt.length := by rw [g1 6 (by decide)]; exact hw.1
  rw [e66, nI_1]
  generalize hI2 : mi_up I' 6 r (nI (wt.length + 1)) = I2
  have i7 : I2 7 = I' 7 := by rw [← hI2, mi_n (by decide)]
  have j4 : J' 4 = vp_updL (J 4) (6 * r + wt.length) cm := by rw [k1 4 (by decide), e6, mj_s]
  have j5 : J6 5 = J 5 := by rw [e6, mj_n (by decide)]
  have j7 : J6 7 = J 7 := by rw [e6, mj_n (by decide)]
  have hw2 : mWt I2 J' r (wt ++ [o]) := by
    refine ⟨by rw [← hI2, mi_s, pk_us, hla], fun a ha => ?_⟩
    rw [ho_app ha]
    rw [hla] at ha
    by_cases hal : a < wt.length
    · rw [if_pos hal]
      exact (hw.2 a hal).mv (by rw [j4, pk_uLn (by omega)]) (fun k hk => by rw [i7, g2 _ (by omega)]) (fun j hj => by rw [k2 _ (by omega), j5])
    · rw [if_neg hal]
      have ea : a = wt.length := by omega
      rw [ea]
      obtain ⟨m0, m1, m2, m3, m4, m5, m6⟩ := ho
      refine ⟨by rw [j4, pk_uLs, hcm], ?_, ?_, ?_, ?_, ?_, m5, fun j hj => ?_⟩
      · show I2 7 _ = _; rw [i7, g3 0 (by omega)]; exact m0
      · show I2 7 _ = _; rw [i7, g3 1 (by omega)]; exact m1
      · show I2 7 _ = _; rw [i7, g3 2 (by omega)]; exact m2
      · show I2 7 _ = _; rw [i7, g3 3 (by omega)]; exact m3
      · show I2 7 _ = _; rw [i7, g3 4 (by omega)]; exact m4
      · show J' 5 _ = _; rw [k3 j (by omega), j7]; exact m6 j hj
  have hfw : mFw I J I2 J' r := by
    refine ⟨fun k h6 h7 => by rw [← hI2, mi_n h6, g1 k h7], fun k h4 h5 => by rw [k1 k h5, e6, mj_n h4], fun r' wt' hne hr' hwl hw' => ⟨by rw [← hI2, mi_s, pk_un hne, g1 6 (by decide)]; exact hw'.1, fun a ha => ?_⟩⟩
    exact (hw'.2 a ha).mv (by rw [j4, pk_uLn (by omega)]) (fun k hk => by rw [i7, g2 _ (by omega)]) (fun j hj => by rw [k2 _ (by omega), j5])
  have e2 : I2 6 r = nI (wt.length + 1) := by rw [hw2.1, hla]
  rw [e2, show (6 : Int32) = nI 6 from rfl, nI_eq (by omega) (by omega)]
  refine ⟨fun c => ?_, fun c => ?_⟩
  · refine h I2 J' hfw ?_
    rw [if_neg (by rw [hla]; omega)]
    exact hw2
  · refine pm_leave (i := 0) hr (by rw [hla]; omega) (by rw [hla]; omega) hw2 (fun I3 J3 f3 w3 => h I3 J3 ⟨fun k h6 h7 => by rw [f3.1 k h6 h7, hfw.1 k h6 h7], fun k h4 h5 => by rw [f3.2.1 k h4 h5, hfw.2.1 k h4 h5], fun r' wt' a b c d => f3.2.2 r' wt' a b c (hfw.2.2 r' wt' a b c d)⟩ ?_)
    rw [if_pos (by rw [hla]; omega)]
    exact w3
theorem pm_waitAt {post : (Nat → Nat → Int32) → (Nat → Nat → Int64) → Int32 → Int64 → Int32 → Prop} {r : Nat} {wt : List ho_O} {o : ho_O} (hr : r < 4) (hl : wt.length ≤ 5) (hw : mWt I J r wt) (ho : mNum (I 9) (J 7) o) (hcm : cm = o.1) (h : ∀ I' J', mFw I J I' J' r → mWt I' J' r (ho_wait wt o) → post I' J' cn cm so) : wMwaitAt post I J cn cm so (nI r) := by
  have loop : ∀ d k, k + d = wt.length → wMwaitAt_4 post (d + 1) I J cn cm so (nI r) (bI (∃ i, i < k ∧ (wt.getD i ho_O0).1 = o.1)) (nI k) := by
    intro d
    induction d with
    | zero =>
      intro k hk
      have e : k = wt.length := by omega
      subst e
      rw [wMwaitAt_4_s, tN (show r < 2 ^ 31 by omega), hw.1, n6]
      refine ⟨vp_in_nI hr (by omega), fun _ => bI_br (fun hn => ⟨vp_in_nI hr (by omega), fun x ex => ?_⟩) (fun hy => ?_), fun c => absurd (nI_le (Nat.le_refl _) (by omega)) c⟩
      · rw [ex, tN (show 6 * r + wt.length < 2 ^ 31 by omega)]
        refine ⟨vp_in_nI (by omega) (by omega), pm_wput hr hl hw ho hcm (fun I' J' f w => h I' J' f ?_)⟩
        unfold ho_wait
        rw [if_neg (by rw [ho_any]; exact hn)]
        exact w
      · refine h I J ⟨fun _ _ _ => rfl, fun _ _ _ => rfl, fun _ _ _ _ _ q => q⟩ ?_
        unfold ho_wait
        rw [if_pos (by rw [ho_any]; exact hy)]
        exact hw
    | succ d ih =>
      intro k hk
      have nx := ih (k + 1) (by omega)
      rw [wMwaitAt_4_s, tN (show r < 2 ^ 31 by omega), hw.1, n6 r k]
      refine ⟨vp_in_nI hr (by omega), fun c => absurd c (nI_ge (by omega) (by omega)), fun _ => bI_nr (fun hy => ?_) (fun hn => ⟨vp_in_nI (by omega) (by omega), ?_⟩)⟩
      · obtain ⟨i, hi, hi2⟩ := hy
        rw [bI_t (P := ∃ i, i < k + 1 ∧ (wt.getD i ho_O0).1 = o.1) ⟨i, by omega, hi2⟩] at nx
        rw [nI_1 k]
        exact nx
      · rw [tN (show 6 * r + k < 2 ^ 31 by omega), lg_cmp_eq, (hw.2 k (by omega)).1, hcm, nI_1 k]
        rw [hcm] at nx
        refine ⟨fun c => ?_, fun c => ?_⟩
        · rw [bI_f (P := ∃ i, i < k + 1 ∧ (wt.getD i ho_O0).1 = o.1) (by
            rintro ⟨i, hi, hi2⟩
            rcases Nat.lt_or_ge i k with z | z
            · exact hn ⟨i, z, hi2⟩
            · rw [show i = k by omega] at hi2
              exact c hi2)] at nx
          exact nx
        · rw [bI_t (P := ∃ i, i < k + 1 ∧ (wt.getD i ho_O0).1 = o.1) ⟨k, by omega, c⟩] at nx
          exact nx
  have := loop wt.length 0 (by omega)
  rw [bI_f (P := ∃ i, i < 0 ∧ (wt.getD i ho_O0).1 = o.1) (fun ⟨i, hi, _⟩ => by omega)] at this
  exact ⟨_, this⟩
end MP7
