/-! the reference: those that wait -/
abbrev ho_O0 : ho_O := (0, (0, 0, 0, 0), [])
def mSlot (I : Nat → Nat → Int32) (J : Nat → Nat → Int64) (a : Nat) (o : ho_O) : Prop := J 4 a = o.1 ∧ mNum (fun k => I 7 (5 * a + k)) (fun j => J 5 (4 * a + j)) o
def mWt (I : Nat → Nat → Int32) (J : Nat → Nat → Int64) (r : Nat) (wt : List ho_O) : Prop := I 6 r = nI wt.length ∧ ∀ i, i < wt.length → mSlot I J (6 * r + i) (wt.getD i ho_O0)
theorem mSlot.mv {I I' : Nat → Nat → Int32} {J J' : Nat → Nat → Int64} {a b : Nat} {o : ho_O} (h : mSlot I J b o) (h4 : J' 4 a = J 4 b) (h7 : ∀ k, k < 5 → I' 7 (5 * a + k) = I 7 (5 * b + k)) (h5 : ∀ j, j < 4 → J' 5 (4 * a + j) = J 5 (4 * b + j)) : mSlot I' J' a o := by
  obtain ⟨q, m0, m1, m2, m3, m4, m5, m6⟩ := h
  refine ⟨h4.trans q, ?_, ?_, ?_, ?_, ?_, m5, fun j hj => ?_⟩
  · show I' 7 (5 * a + 0) = _; rw [h7 0 (by omega)]; exact m0
  · show I' 7 (5 * a + 1) = _; rw [h7 1 (by omega)]; exact m1
  · show I' 7 (5 * a + 2) = _; rw [h7 2 (by omega)]; exact m2
  · show I' 7 (5 * a + 3) = _; rw [h7 3 (by omega)]; exact m3
  · show I' 7 (5 * a + 4) = _; rw [h7 4 (by omega)]; exact m4
  · show J' 5 (4 * a + j) = _; rw [h5 j (by omega)]; exact m6 j hj
theorem ho_del {wt : List ho_O} {i a : Nat} : (wt.eraseIdx i).getD a ho_O0 = if a < i then wt.getD a ho_O0 else wt.getD (a + 1) ho_O0 := by
  rw [List.getD_eq_getElem?_getD, List.getElem?_eraseIdx]
  by_cases h : a < i
  · simp [h]
  · simp [h]
theorem n55 (c k : Nat) : (5 : Int32) * nI c + 5 + nI k = nI (5 * c + 5 + k) := by rw [show (5 : Int32) = nI 5 from rfl, pk_mul, nI_add, nI_add]
theorem n44 (c k : Nat) : (4 : Int32) * nI c + 4 + nI k = nI (4 * c + 4 + k) := by rw [show (4 : Int32) = nI 4 from rfl, pk_mul, nI_add, nI_add]
section MP6
variable {I : Nat → Nat → Int32} {J : Nat → Nat → Int64} {cn : Int32} {cm : Int64} {so : Int32}
theorem pm_ld41 {post : (Nat → Nat → Int32) → (Nat → Nat → Int64) → Int32 → Int64 → Int32 → Prop} {a : Nat} (ha : a < 24) (h : ∀ J', (∀ k, k ≠ 7 → J' k = J k) → (∀ i, i < 4 → J' 7 i = J 5 (4 * a + i)) → post I J' cn cm so) : ∀ d k J', k + d = 4 → (∀ b, b ≠ 7 → J' b = J b) → (∀ i, i < k → J' 7 i = J 5 (4 * a + i)) → wMload_41 post (d + 1) I J' cn cm so (nI a) (nI k) := by
  intro d
  induction d with
  | zero =>
    intro k J' hk h1 h2
    rw [wMload_41_s, l4 (by omega)]
    exact ⟨fun _ => h J' h1 (fun i hi => h2 i (by omega)), fun c => by omega⟩
  | succ d ih =>
    intro k J' hk h1 h2
    rw [wMload_41_s, l4 (by omega), n4]
    refine ⟨fun c => by omega, fun _ => ⟨vp_in_nI (by omega) (by omega), vp_in_nI (by omega) (by omega), fun J2 e2 => ?_⟩⟩
    rw [tN (show k < 2 ^ 31 by omega), tN (show 4 * a + k < 2 ^ 31 by omega)] at e2
    rw [nI_1]
    refine ih (k + 1) J2 (by omega) (fun b hb => by rw [e2, mj_n hb, h1 b hb]) (fun i hi => ?_)
    rw [e2, mj_s]
    by_cases hik : i = k
    · rw [hik, pk_uLs, h1 5 (by decide)]
    · rw [pk_uLn hik, h2 i (by omega)]
theorem pm_ld12 {post : (Nat → Nat → Int32) → (Nat → Nat → Int64) → Int32 → Int64 → Int32 → Prop} {a : Nat} (ha : a < 24) (h : ∀ I', (∀ k, k ≠ 9 → I' k = I k) → (∀ i, i < 5 → I' 9 i = I 7 (5 * a + i)) → ∃ k, wMload_41 post k I' J cn cm so (nI a) 0) : ∀ d k I', k + d = 5 → (∀ b, b ≠ 9 → I' b = I b) → (∀ i, i < k → I' 9 i = I 7 (5 * a + i)) → wMload_12 post (d + 1) I' J cn cm so (nI a) (nI k) := by
  intro d
  induction d with
  | zero =>
    intro k I' hk h1 h2
    rw [wMload_12_s, l5 (by omega)]
    exact ⟨fun _ => h I' h1 (fun i hi => h2 i (by omega)), fun c => by omega⟩
  | succ d ih =>
    intro k I' hk h1 h2
    rw [wMload_12_s, l5 (by omega), n5]
    refine ⟨fun c => by omega, fun _ => ⟨vp_in_nI (by omega) (by omega), vp_in_nI (by omega) (by omega), fun I2 e2 => ?_⟩⟩
    rw [tN (show k < 2 ^ 31 by omega), tN (show 5 * a + k < 2 ^ 31 by omega)] at e2
    rw [nI_1]
    refine ih (k + 1) I2 (by omega) (fun b hb => by rw [e2, mi_n hb, h1 b hb]) (fun i hi => ?_)
    rw [e2, mi_s]
    by_cases hik : i = k
    · rw [hik, pk_us, h1 7 (by decide)]
    · rw [pk_un hik, h2 i (by omega)]
theorem pm_load {post : (Nat → Nat → Int32) → (Nat → Nat → Int64) → Int32 → Int64 → Int32 → Prop} {a : Nat} {o : ho_O} (ha : a < 24) (hs : mSlot I J a o) (h : ∀ I' J', mFr I J I' J' → mNum (I' 9) (J' 7) o → post I' J' cn o.1 so) : wMload post I J cn cm so (nI a) := by
  unfold wMload
  rw [tN (show a < 2 ^ 31 by omega)]
  refine ⟨vp_in_nI ha (by omega), fun x ex => ⟨_, pm_ld12 (I := I) ha (fun I' g1 g2 => ⟨_, pm_ld41 (J := J) ha (fun J' k1 k2 => ?_) 4 0 J (by omega) (fun _ _ => rfl) (fun i hi => by omega)⟩) 5 0 I (by omega) (fun _ _ => rfl) (fun i hi => by omega)⟩⟩
  obtain ⟨q, m0, m1, m2, m3, m4, m5, m6⟩ := hs
  rw [ex, q]
  refine h I' J' ⟨fun k h9 _ => g1 k h9, k1⟩ ⟨?_, ?_, ?_, ?_, ?_, m5, fun j hj => ?_⟩
  · rw [g2 0 (by omega)]; exact m0
  · rw [g2 1 (by omega)]; exact m1
  · rw [g2 2 (by omega)]; exact m2
  · rw [g2 3 (by omega)]; exact m3
  · rw [g2 4 (by omega)]; exact m4
  · rw [k2 j (by omega)]; exact m6 j hj
theorem pm_l88 {post : (Nat → Nat → Int32) → (Nat → Nat → Int64) → Int32 → Int64 → Int32 → Prop} {K17 : (Nat → Nat → Int32) → (Nat → Nat → Int64) → Int32 → Int64 → Int32 → Int32 → Int32 → Prop} {v1 : Int32} {c : Nat} (hc : c < 23) (h : ∀ J', (∀ k, k ≠ 5 → J' k = J k) → (∀ b, b < 4 * c ∨ 4 * c + 4 ≤ b → J' 5 b = J 5 b) → (∀ j, j < 4 → J' 5 (4 * c + j) = J 5 (4 * (c + 1) + j)) → K17 I J' cn cm so v1 (nI c + 1)) : ∀ d k J', k + d = 4 → (∀ a, a ≠ 5 → J' a = J a) → (∀ b, b < 4 * c ∨ 4 * c + k ≤ b → J' 5 b = J 5 b) → (∀ j, j < k → J' 5 (4 * c + j) = J 5 (4 * (c + 1) + j)) → wMleave_88 post K17 (d + 1) I J' cn cm so v1 (nI c) (nI k) := by
  intro d
  induction d with
  | zero =>
    intro k J' hk h1 h2 h3
    have e : k = 4 := by omega
    subst e
    rw [wMleave_88_s, l4 (by omega)]
    exact ⟨fun _ => h J' h1 h2 h3, fun c => by omega⟩
  | succ d ih =>
    intro k J' hk h1 h2 h3
    rw [wMleave_88_s, l4 (by omega), n4, n44]
    refine ⟨fun c => by omega, fun _ => ⟨vp_in_nI (by omega) (by omega), vp_in_nI (by omega) (by omega), fun J2 e2 => ?_⟩⟩
    rw [tN (show 4 * c + 4 + k < 2 ^ 31 by omega), tN (show 4 * c + k < 2 ^ 31 by omega)] at e2
    rw [nI_1 k]
    refine ih (k + 1) J2 (by omega) (fun a ha => by rw [e2, mj_n ha, h1 a ha]) (fun b hb => ?_) (fun j hj => ?_)
    · rw [e2, mj_s, pk_uLn (by omega)]
      exact h2 b (by omega)
    · rw [e2, mj_s]
      by_cases hjk : j = k
      · rw [hjk, pk_uLs, h2 _ (by omega)]
        congr 1
      · rw [pk_uLn (by omega), h3 j (by omega)]
theorem pm_l49 {post : (Nat → Nat → Int32) → (Nat → Nat → Int64) → Int32 → Int64 → Int32 → Prop} {K17 : (Nat → Nat → Int32) → (Nat → Nat → Int64) → Int32 → Int64 → Int32 → Int32 → Int32 → Prop} {v1 : Int32} {c : Nat} (hc : c < 23) (h : ∀ I', (∀ k, k ≠ 7 → I' k = I k) → (∀ b, b < 5 * c ∨ 5 * c + 5 ≤ b → I' 7 b = I 7 b) → (∀ j, j < 5 → I' 7 (5 * c + j) = I 7 (5 * (c + 1) + j)) → ∃ k, wMleave_88 post K17 k I' J cn cm so v1 (nI c) 0) : ∀ d k I', k + d = 5 → (∀ a, a ≠ 7 → I' a = I a) → (∀ b, b < 5 * c ∨ 5 * c + k ≤ b → I' 7 b = I 7 b) → (∀ j, j < k → I' 7 (5 * c + j) = I 7 (5 * (c + 1) + j)) → wMleave_49 post K17 (d + 1) I' J cn cm so v1 (nI c) (nI k) := by
  intro d
  induction d with
  | zero =>
    intro k I' hk h1 h2 h3
    have e : k = 5 := by omega
    subst e
    rw [wMleave_49_s, l5 (by omega)]
    exact ⟨fun _ => h I' h1 h2 h3, fun c => by omega⟩
  | succ d ih =>
    intro k I' hk h1 h2 h3
    rw [wMleave_49_s, l5 (by omega), n5, n55]
    refine ⟨fun c => by omega, fun _ => ⟨vp_in_nI (by omega) (by omega), vp_in_nI (by omega) (by omega), fun I2 e2 => ?_⟩⟩
    rw [tN (show 5 * c + 5 + k < 2 ^ 31 by omega), tN (show 5 * c + k < 2 ^ 31 by omega)] at e2
    rw [nI_1 k]
    refine ih (k + 1) I2 (by omega) (fun a ha => by rw [e2, mi_n ha, h1 a ha]) (fun b hb => ?_) (fun j hj => ?_)
    · rw [e2, mi_s, pk_un (by omega)]
      exact h2 b (by omega)
    · rw [e2, mi_s]
      by_cases hjk : j = k
      · rw [hjk, pk_us, h2 _ (by omega)]
        congr 1
      · rw [pk_un (by omega), h3 j (by omega)]
/-- where slot a comes from, when those from lo up to c have moved down -/
def mSh (lo c a : Nat) : Nat := if lo ≤ a ∧ a < c then a + 1 else a
def mMv (I : Nat → Nat → Int32) (J : Nat → Nat → Int64) (I' : Nat → Nat → Int32) (J' : Nat → Nat → Int64) (lo c : Nat) : Prop := (∀ k, k ≠ 7 → I' k = I k) ∧ (∀ k, k ≠ 4 → k ≠ 5 → J' k = J k) ∧ ∀ a, J' 4 a = J 4 (mSh lo c a) ∧ (∀ k, k < 5 → I' 7 (5 * a + k) = I 7 (5 * mSh lo c a + k)) ∧ ∀ j, j < 4 → J' 5 (4 * a + j) = J 5 (4 * mSh lo c a + j)
theorem pm_l17 {post : (Nat → Nat → Int32) → (Nat → Nat → Int64) → Int32 → Int64 → Int32 → Prop} {r lo L : Nat} (hr : r < 4) (hL : L ≤ 5) (hlo : 6 * r ≤ lo) (hlo2 : lo ≤ 6 * r + 6) (hI : I 6 r = nI L) (h : ∀ I' J', mMv I J I' J' lo (6 * r + L) → post I' J' cn cm so) : ∀ d c I' J', lo ≤ c → c + d = max lo (6 * r + L) → mMv I J I' J' lo c → wMleave_17 post (d + 1) I' J' cn cm so (nI r) (nI c) := by
  intro d
  induction d with
  | zero =>
    intro c I' J' hc1 hc hm
    have hm6 : I' 6 r = nI L := by rw [hm.1 6 (by decide)]; exact hI
    rw [wMleave_17_s, tN (show r < 2 ^ 31 by omega), hm6, n6, nI_leI (by omega) (by omega)]
    refine ⟨vp_in_nI hr (by omega), fun _ => h I' J' ⟨hm.1, hm.2.1, fun a => ?_⟩, fun q => by omega⟩
    have e : mSh lo (6 * r + L) a = mSh lo c a := by
      unfold mSh
      by_cases q : lo ≤ a ∧ a < c
      · by_cases q2 : a < 6 * r + L
        · rw [if_pos q, if_pos ⟨q.1, q2⟩]
        · omega
      · rw [if_neg q, if_neg (by omega)]
    rw [e]
    exact hm.2.2 a
  | succ d ih =>
    intro c I' J' hc1 hc hm
    have hlt : c < 6 * r + L := by omega
    have hm6 : I' 6 r = nI L := by rw [hm.1 6 (by decide)]; exact hI
    rw [wMleave_17_s, tN (show r < 2 ^ 31 by omega), hm6, n6, nI_leI (by omega) (by omega), nI_1, tN (show c + 1 < 2 ^ 31 by omega), tN (show c < 2 ^ 31 by omega)]
    refine ⟨vp_in_nI hr (by omega), fun q => by omega, fun _ => ⟨vp_in_nI (by omega) (by omega), vp_in_nI (by omega) (by omega), fun J7 e7 => ⟨_, pm_l49 (I := I') (by omega) (fun I2 g1 g2 g3 => ⟨_, pm_l88 (J := J7) (by omega) (fun J2 k1 k2 k3 => ?_) 4 0 J7 (by omega) (fun _ _ => rfl) (fun _ _ => rfl) (fun j hj => by omega)⟩) 5 0 I' (by omega) (fun _ _ => rfl) (fun _ _ => rfl) (fun j hj => by omega)⟩⟩⟩
    rw [nI_1]
    refine ih (c + 1) I2 J2 (by omega) (by omega) ⟨fun k hk => by rw [g1 k hk, hm.1 k hk], fun k h4 h5 => by rw [k1 k h5, e7, mj_n h4, hm.2.1 k h4 h5], fun a => ?_⟩
    have old := hm.2.2 a
    have nxt := hm.2.2 (c + 1)
    have e0 : mSh lo c (c + 1) = c + 1 := by unfold mSh; rw [if_neg (by omega)]
    rw [e0] at nxt
    by_cases hac : a = c
    · have e1 : mSh lo (c + 1) a = c + 1 := by unfold mSh; rw [if_pos (by omega), hac]
      rw [e1, hac]
      refine ⟨?_, fun k hk => ?_, fun j hj => ?_⟩
      · rw [k1 4 (by decide), e7, mj_s, pk_uLs, nxt.1]
      · rw [g3 k hk, nxt.2.1 k hk]
      · rw [k3 j hj, e7, mj_n (by decide), nxt.2.2 j hj]
    · have e1 : mSh lo (c + 1) a = mSh lo c a := by
        unfold mSh
        by_cases q : lo ≤ a ∧ a < c
        · rw [if_pos q, if_pos (by omega)]
        · rw [if_neg q, if_neg (by omega)]
      rw [e1]
      refine ⟨?_, fun k hk => ?_, fun j hj => ?_⟩
      · rw [k1 4 (by decide), e7, mj_s, pk_uLn hac, old.1]
      · rw [g2 _ (by omega), old.2.1 k hk]
      · rw [k2 _ (by omega), e7, mj_n (by decide), old.2.2 j hj]
/-- what leaving and waiting change: the rows of those that wait -/
def mFw (I : Nat → Nat → Int32) (J : Nat → Nat → Int64) (I' : Nat → Nat → Int32) (J' : Nat → Nat → Int64) (r : Nat) : Prop := (∀ k, k ≠ 6 → k ≠ 7 → I' k = I k) ∧ (∀ k, k ≠ 4 → k ≠ 5 → J' k = J k) ∧ ∀ r' wt, r' ≠ r → r' < 4 → wt.length ≤ 6 → mWt I J r' wt → mWt I' J' r' wt
theorem pm_leave {post : (Nat → Nat → Int32) → (Nat → Nat → Int64) → Int32 → Int64 → Int32 → Prop} {r i : Nat} {wt : List ho_O} (hr : r < 4) (hl : wt.length ≤ 6) (hi : i < wt.length) (hw : mWt I J r wt) (h : ∀ I' J', mFw I J I' J' r → mWt I' J' r (wt.eraseIdx i) → post I' J' cn cm so) : wMleave post I J cn cm so (nI r) (nI i) := by
  unfold wMleave
  obtain ⟨L, hL⟩ : ∃ L, wt.length = L + 1 := ⟨wt.length - 1, by omega⟩
  have hel : (wt.eraseIdx i).length = L := by rw [List.length_eraseIdx_of_lt hi]; omega
  rw [tN (show r < 2 ^ 31 by omega), hw.1, hL, nI_pred, n6]
  refine ⟨vp_in_nI hr (by omega), vp_in_nI hr (by omega), fun I2 e2 => ⟨_, pm_l17 (I := I2) (J := J) (L := L) (lo := 6 * r + i) hr (by omega) (by omega) (by omega) (by rw [e2, mi_s, pk_us]) (fun I' J' hm => ?_) (max (6 * r + i) (6 * r + L) - (6 * r + i)) (6 * r + i) I2 J (Nat.le_refl _) (by omega) ⟨fun _ _ => rfl, fun _ _ _ => rfl, fun a => ?_⟩⟩⟩
  · obtain ⟨h1, h2, h3⟩ := hm
    have h7 : I2 7 = I 7 := by rw [e2, mi_n (by decide)]
    refine h I' J' ⟨fun k h6 h7 => by rw [h1 k h7, e2, mi_n h6], h2, fun r' wt' hne hr' hwl hw' => ⟨?_, fun a ha => ?_⟩⟩ ⟨?_, fun a ha => ?_⟩
    · rw [h1 6 (by decide), e2, mi_s, pk_un hne]; exact hw'.1
    · have e : mSh (6 * r + i) (6 * r + L) (6 * r' + a) = 6 * r' + a := by unfold mSh; rw [if_neg (by omega)]
      have q := h3 (6 * r' + a)
      rw [e, h7] at q
      exact (hw'.2 a ha).mv q.1 q.2.1 q.2.2
    · rw [h1 6 (by decide), e2, mi_s, pk_us, hel]
    · rw [hel] at ha
      have q := h3 (6 * r + a)
      rw [h7] at q
      rw [ho_del]
      by_cases hai : a < i
      · have e : mSh (6 * r + i) (6 * r + L) (6 * r + a) = 6 * r + a := by unfold mSh; rw [if_neg (by omega)]
        rw [e] at q
        rw [if_pos hai]
        exact (hw.2 a (by omega)).mv q.1 q.2.1 q.2.2
      · have e : mSh (6 * r + i) (6 * r + L) (6 * r + a) = 6 * r + (a + 1) := by unfold mSh; rw [if_pos (by omega)]; omega
        rw [e] at q
        rw [if_neg hai]
        exact (hw.2 (a + 1) (by omega)).mv q.1 q.2.1 q.2.2
  · have e : mSh (6 * r + i) (6 * r + i) a = a := by unfold mSh; rw [if_neg (by omega)]
    rw [e]
    exact ⟨rfl, fun _ _ => rfl, fun _ _ => rfl⟩
end MP6
