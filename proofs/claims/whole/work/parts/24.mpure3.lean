/-! the reference: hashes, becoming a known one, shape, rightness -/
theorem nI_add2 (a b : Nat) : nI a + nI b = nI (a + b) := nI_add a b
theorem n4 (g k : Nat) : (4 : Int32) * nI g + nI k = nI (4 * g + k) := by rw [show (4 : Int32) = nI 4 from rfl, pk_mul, nI_add]
theorem n5 (g k : Nat) : (5 : Int32) * nI g + nI k = nI (5 * g + k) := by rw [show (5 : Int32) = nI 5 from rfl, pk_mul, nI_add]
theorem n6 (g k : Nat) : (6 : Int32) * nI g + nI k = nI (6 * g + k) := by rw [show (6 : Int32) = nI 6 from rfl, pk_mul, nI_add]
theorem l4 {k : Nat} (h : k < 2 ^ 31) : (4 : Int32) ≤ nI k ↔ 4 ≤ k := by rw [show (4 : Int32) = nI 4 from rfl]; exact nI_leI (by omega) h
theorem l5 {k : Nat} (h : k < 2 ^ 31) : (5 : Int32) ≤ nI k ↔ 5 ≤ k := by rw [show (5 : Int32) = nI 5 from rfl]; exact nI_leI (by omega) h
theorem mi_s (I : Nat → Nat → Int32) (k j : Nat) (x : Int32) : mi_up I k j x k = upd (I k) j x := by simp [mi_up]
theorem mi_n {I : Nat → Nat → Int32} {k j a : Nat} {x : Int32} (h : a ≠ k) : mi_up I k j x a = I a := by simp [mi_up, h]
theorem mj_s (J : Nat → Nat → Int64) (k j : Nat) (x : Int64) : mj_up J k j x k = vp_updL (J k) j x := by simp [mj_up]
theorem mj_n {J : Nat → Nat → Int64} {k j a : Nat} {x : Int64} (h : a ≠ k) : mj_up J k j x a = J a := by simp [mj_up, h]
/-- only the reference's scratch arrays (numbers, order; comingLink) have changed -/
def mFr (I : Nat → Nat → Int32) (J : Nat → Nat → Int64) (I' : Nat → Nat → Int32) (J' : Nat → Nat → Int64) : Prop := (∀ k, k ≠ 9 → k ≠ 10 → I' k = I k) ∧ ∀ k, k ≠ 7 → J' k = J k
theorem mFr.rf {I : Nat → Nat → Int32} {J : Nat → Nat → Int64} : mFr I J I J := ⟨fun _ _ _ => rfl, fun _ _ => rfl⟩
theorem mFr.tr {I I1 I2 : Nat → Nat → Int32} {J J1 J2 : Nat → Nat → Int64} (h : mFr I J I1 J1) (h' : mFr I1 J1 I2 J2) : mFr I J I2 J2 := ⟨fun k h1 h2 => (h'.1 k h1 h2).trans (h.1 k h1 h2), fun k h1 => (h'.2 k h1).trans (h.2 k h1)⟩
theorem mKn.fr {K : Nat → ho_M} {n : Nat} {I I' : Nat → Nat → Int32} {J J' : Nat → Nat → Int64} {cn : Int32} (h : mKn K n I J cn) (hf : mFr I J I' J') : mKn K n I' J' cn := by
  obtain ⟨h1, h2, h3, h4⟩ := h
  refine ⟨h1, h2, h3, fun g hg => ?_⟩
  obtain ⟨a, b, c, d, e⟩ := h4 g hg
  unfold mNum at b ⊢
  dsimp only at b ⊢
  rw [hf.2 0 (by decide), hf.2 1 (by decide), hf.2 2 (by decide), hf.1 0 (by decide) (by decide), hf.1 1 (by decide) (by decide), hf.1 2 (by decide) (by decide), hf.1 3 (by decide) (by decide), hf.1 4 (by decide) (by decide), hf.1 5 (by decide) (by decide)]
  exact ⟨a, b, c, d, e⟩
section MP3
variable {I : Nat → Nat → Int32} {J : Nat → Nat → Int64} {cn : Int32} {cm : Int64} {so : Int32} {K : Nat → ho_M} {n : Nat} {o : ho_O}
theorem pm_hN2 {post : Int64 → (Nat → Nat → Int32) → (Nat → Nat → Int64) → Int32 → Int64 → Int32 → Prop} {h5 : Int64} {len : Nat} (h4 : I 9 4 = nI len) (hl : len ≤ 4) (h : post (ho_hl h5 (J 7) len) I J cn cm so) : ∀ d j, j + d = len → wMhashOfN_32 post (d + 1) I J cn cm so (ho_hl h5 (J 7) j) (nI j) := by
  intro d
  induction d with
  | zero =>
    intro j hj
    have e : j = len := by omega
    subst e
    rw [wMhashOfN_32_s, t32_4, h4]
    exact ⟨v45, fun _ => h, fun c => absurd (nI_le (Nat.le_refl _) (by omega)) c⟩
  | succ d ih =>
    intro j hj
    rw [wMhashOfN_32_s, t32_4, h4]
    refine ⟨v45, fun c => absurd c (nI_ge (by omega) (by omega)), fun _ => ⟨vp_in_nI (by omega) (by omega), ?_⟩⟩
    rw [tN (show j < 2 ^ 31 by omega), nI_1]
    exact ih (j + 1) (by omega)
theorem pm_hN1 {post : Int64 → (Nat → Nat → Int32) → (Nat → Nat → Int64) → Int32 → Int64 → Int32 → Prop} {len : Nat} (h4 : I 9 4 = nI len) (hl : len ≤ 4) (h : post (ho_hl (ho_h5 (I 9) 5) (J 7) len) I J cn cm so) : ∀ d j, j + d = 5 → wMhashOfN_7 post (d + 1) I J cn cm so (ho_h5 (I 9) j) (nI j) := by
  intro d
  induction d with
  | zero =>
    intro j hj
    have e : j = 5 := by omega
    subst e
    rw [wMhashOfN_7_s]
    exact ⟨fun _ => ⟨_, pm_hN2 h4 hl h len 0 (by omega)⟩, fun c => absurd (show (5 : Int32) ≤ nI 5 by decide) c⟩
  | succ d ih =>
    intro j hj
    rw [wMhashOfN_7_s, l5 (by omega)]
    refine ⟨fun c => by omega, fun _ => ⟨vp_in_nI (by omega) (by omega), ?_⟩⟩
    rw [tN (show j < 2 ^ 31 by omega), nI_1]
    exact ih (j + 1) (by omega)
theorem pm_hashOfN {post : Int64 → (Nat → Nat → Int32) → (Nat → Nat → Int64) → Int32 → Int64 → Int32 → Prop} (ho : mNum (I 9) (J 7) o) (h : post (ho_hashO o.2.1 o.2.2) I J cn cm so) : wMhashOfN post I J cn cm so := by
  rw [← mNum_hash ho] at h
  exact ⟨_, pm_hN1 ho.2.2.2.2.1 ho.2.2.2.2.2.1 h 5 0 (by omega)⟩
theorem pm_hD2 {post : Int64 → (Nat → Nat → Int32) → (Nat → Nat → Int64) → Int32 → Int64 → Int32 → Prop} {h5 : Int64} {len : Nat} (h4 : I 8 4 = nI len) (hl : len ≤ 4) (h : post (ho_hl h5 (J 6) len) I J cn cm so) : ∀ d j, j + d = len → wMhashOfD_32 post (d + 1) I J cn cm so (ho_hl h5 (J 6) j) (nI j) := by
  intro d
  induction d with
  | zero =>
    intro j hj
    have e : j = len := by omega
    subst e
    rw [wMhashOfD_32_s, t32_4, h4]
    exact ⟨v45, fun _ => h, fun c => absurd (nI_le (Nat.le_refl _) (by omega)) c⟩
  | succ d ih =>
    intro j hj
    rw [wMhashOfD_32_s, t32_4, h4]
    refine ⟨v45, fun c => absurd c (nI_ge (by omega) (by omega)), fun _ => ⟨vp_in_nI (by omega) (by omega), ?_⟩⟩
    rw [tN (show j < 2 ^ 31 by omega), nI_1]
    exact ih (j + 1) (by omega)
theorem pm_hD1 {post : Int64 → (Nat → Nat → Int32) → (Nat → Nat → Int64) → Int32 → Int64 → Int32 → Prop} {len : Nat} (h4 : I 8 4 = nI len) (hl : len ≤ 4) (h : post (ho_hl (ho_h5 (I 8) 5) (J 6) len) I J cn cm so) : ∀ d j, j + d = 5 → wMhashOfD_7 post (d + 1) I J cn cm so (ho_h5 (I 8) j) (nI j) := by
  intro d
  induction d with
  | zero =>
    intro j hj
    have e : j = 5 := by omega
    subst e
    rw [wMhashOfD_7_s]
    exact ⟨fun _ => ⟨_, pm_hD2 h4 hl h len 0 (by omega)⟩, fun c => absurd (show (5 : Int32) ≤ nI 5 by decide) c⟩
  | succ d ih =>
    intro j hj
    rw [wMhashOfD_7_s, l5 (by omega)]
    refine ⟨fun c => by omega, fun _ => ⟨vp_in_nI (by omega) (by omega), ?_⟩⟩
    rw [tN (show j < 2 ^ 31 by omega), nI_1]
    exact ih (j + 1) (by omega)
theorem pm_draftHash {post : Int64 → (Nat → Nat → Int32) → (Nat → Nat → Int64) → Int32 → Int64 → Int32 → Prop} (ho : mNum (I 8) (J 6) o) (h : post (ho_hashO o.2.1 o.2.2) I J cn cm so) : wMdraftHash post I J cn cm so := by
  rw [← mNum_hash ho] at h
  exact ⟨_, pm_hD1 ho.2.2.2.2.1 ho.2.2.2.2.2.1 h 5 0 (by omega)⟩
/-- four links copied from a row into comingLink -/
theorem pm_bec_loop {post : (Nat → Nat → Int32) → (Nat → Nat → Int64) → Int32 → Int64 → Int32 → Prop} {g : Nat} (hg : g < 40) (h : ∀ J', (∀ k, k ≠ 7 → J' k = J k) → (∀ i, i < 4 → J' 7 i = J 1 (4 * g + i)) → post I J' cn cm so) : ∀ d k J', k + d = 4 → (∀ a, a ≠ 7 → J' a = J a) → (∀ i, i < k → J' 7 i = J 1 (4 * g + i)) → wMbecome_72 post (d + 1) I J' cn cm so (nI g) (nI k) := by
  intro d
  induction d with
  | zero =>
    intro k J' hk h1 h2
    rw [wMbecome_72_s, l4 (by omega)]
    exact ⟨fun _ => h J' h1 (fun i hi => h2 i (by omega)), fun c => by omega⟩
  | succ d ih =>
    intro k J' hk h1 h2
    rw [wMbecome_72_s, l4 (by omega), n4]
    refine ⟨fun c => by omega, fun _ => ⟨vp_in_nI (by omega) (by omega), vp_in_nI (by omega) (by omega), fun J2 e2 => ?_⟩⟩
    rw [tN (show k < 2 ^ 31 by omega), tN (show 4 * g + k < 2 ^ 31 by omega)] at e2
    rw [nI_1]
    refine ih (k + 1) J2 (by omega) (fun a ha => by rw [e2, mj_n ha, h1 a ha]) (fun i hi => ?_)
    rw [e2, mj_s]
    by_cases hik : i = k
    · rw [hik, pk_uLs, h1 1 (by decide)]
    · rw [pk_uLn hik, h2 i (by omega)]
theorem pm_become {post : (Nat → Nat → Int32) → (Nat → Nat → Int64) → Int32 → Int64 → Int32 → Prop} {g : Nat} (hk : mKn K n I J cn) (hg : g < n) (h : ∀ I' J' cm', mFr I J I' J' → mNum (I' 9) (J' 7) (K g).1 → cm' = (K g).1.1 → post I' J' cn cm' so) : wMbecome post I J cn cm so (nI g) := by
  have hn := hk.1
  have hg40 : g < 40 := by omega
  have vg : vp_in (nI g) 40 := vp_in_nI hg40 (by omega)
  obtain ⟨k0, ⟨m0, m1, m2, m3, m4, m5, m6⟩, -⟩ := hk.2.2.2 g hg
  unfold wMbecome
  rw [tN (show g < 2 ^ 31 by omega), t32_0, t32_1, t32_2, t32_3, t32_4]
  refine ⟨vg, fun x ex => ⟨vg, v05, fun I4 e4 => ⟨vg, v15, fun I7 e7 => ⟨vg, v25, fun I10 e10 => ⟨vg, v35, fun I13 e13 => ⟨vg, v45, fun I16 e16 => ⟨_, pm_bec_loop (J := J) hg40 (fun J' h1 h2 => ?_) 4 0 J (by omega) (fun _ _ => rfl) (fun i hi => by omega)⟩⟩⟩⟩⟩⟩⟩
  refine h I16 J' x ⟨fun k h9 _ => ?_, h1⟩ ⟨?_, ?_, ?_, ?_, ?_, m5, fun j hj => ?_⟩ (by rw [ex, k0])
  · rw [e16, mi_n h9, e13, mi_n h9, e10, mi_n h9, e7, mi_n h9, e4, mi_n h9]
  · rw [e16, e13, e10, e7, e4]; simp only [mi_s, upd]; simp; exact m0
  · rw [e16, e13, e10, e7, e4]; simp only [mi_s, upd]; simp [mi_up]; exact m1
  · rw [e16, e13, e10, e7, e4]; simp only [mi_s, upd]; simp [mi_up]; exact m2
  · rw [e16, e13, e10, e7, e4]; simp only [mi_s, upd]; simp [mi_up]; exact m3
  · rw [e16, e13, e10, e7, e4]; simp only [mi_s, upd]; simp [mi_up]; exact m4
  · rw [h2 j (by omega)]; exact m6 j hj
theorem pm_shape_loop {post : Int32 → (Nat → Nat → Int32) → (Nat → Nat → Int64) → Int32 → Int64 → Int32 → Prop} (B : Prop) (ho : mNum (I 9) (J 7) o) (h : post (bI (B ∧ ho_grow o.2.2)) I J cn cm so) : ∀ d j, 1 ≤ j → j + d = max 1 o.2.2.length → wMinShape_66 post (d + 1) I J cn cm so (bI (B ∧ ∀ i, i + 1 < j → o.2.2.getD i 0 < o.2.2.getD (i + 1) 0)) (nI j) := by
  obtain ⟨-, -, -, -, h4, hl4, hL⟩ := ho
  intro d
  induction d with
  | zero =>
    intro j h1 hj
    rw [wMinShape_66_s, t32_4, h4]
    have hjl : o.2.2.length ≤ j := by rw [show j = max 1 o.2.2.length by omega]; exact Nat.le_max_right _ _
    refine ⟨v45, fun _ => ⟨bI_nar _, ?_⟩, fun c => absurd (nI_le hjl (by omega)) c⟩
    rw [bI_ext (show (B ∧ ∀ i, i + 1 < j → o.2.2.getD i 0 < o.2.2.getD (i + 1) 0) ↔ (B ∧ ho_grow o.2.2) from ?_)]
    · exact h
    · constructor
      · rintro ⟨hB, hg⟩
        exact ⟨hB, fun i hi => hg i (by omega)⟩
      · rintro ⟨hB, hg⟩
        exact ⟨hB, fun i hi => hg i (by omega)⟩
  | succ d ih =>
    intro j h1 hj
    have hlt : j < o.2.2.length := by omega
    rw [wMinShape_66_s, t32_4, h4]
    obtain ⟨j', rfl⟩ : ∃ j', j = j' + 1 := ⟨j - 1, by omega⟩
    have := ih (j' + 1 + 1) (by omega) (by omega)
    refine ⟨v45, fun c => absurd c (nI_ge hlt (by omega)), fun _ => bI_br (fun hn => ?_) (fun hy => ?_)⟩
    · rw [bI_f (fun q => hn ⟨q.1, fun i hi => q.2 i (by omega)⟩)] at this
      rw [nI_1]
      exact this
    · rw [nI_pred, tN (show j' < 2 ^ 31 by omega), tN (show j' + 1 < 2 ^ 31 by omega), hL j' (by omega), hL (j' + 1) hlt, lg_cmp_ge, nI_1]
      refine ⟨vp_in_nI (by omega) (by omega), vp_in_nI (by omega) (by omega), fun c => ?_, fun c => ?_⟩
      · rw [bI_f (fun q => absurd (q.2 j' (by omega)) (Int64.not_lt.mpr c))] at this
        exact this
      · rw [bI_t ⟨hy.1, fun i hi => by
          rcases Nat.lt_or_ge (i + 1) (j' + 1) with q | q
          · exact hy.2 i q
          · have e : i = j' := by omega
            subst e
            exact Int64.not_le.mp c⟩] at this
        exact this
theorem i3 (x : Int32) : 3 < x ↔ ¬ x < 4 := by
  rw [Int32.lt_iff_toInt_lt, Int32.lt_iff_toInt_lt, show (3 : Int32).toInt = 3 from by decide, show (4 : Int32).toInt = 4 from by decide]; omega
theorem i3' (x : Int32) : 3 < x ↔ ¬ x ≤ 3 := by
  rw [Int32.lt_iff_toInt_lt, Int32.le_iff_toInt_le, show (3 : Int32).toInt = 3 from by decide]; omega
theorem i7 (x : Int32) : 7 < x ↔ ¬ x < 8 := by
  rw [Int32.lt_iff_toInt_lt, Int32.lt_iff_toInt_lt, show (7 : Int32).toInt = 7 from by decide, show (8 : Int32).toInt = 8 from by decide]; omega
theorem i0 (x : Int32) : x < 0 ↔ ¬ 0 ≤ x := by
  rw [Int32.lt_iff_toInt_lt, Int32.le_iff_toInt_le, show (0 : Int32).toInt = 0 from by decide]; omega
theorem pm_inShape {post : Int32 → (Nat → Nat → Int32) → (Nat → Nat → Int64) → Int32 → Int64 → Int32 → Prop} (ho : mNum (I 9) (J 7) o) (h : post (bI (ho_shape o)) I J cn cm so) : wMinShape post I J cn cm so := by
  have key : ∀ B : Prop, ((B ∧ ho_grow o.2.2) ↔ ho_shape o) → ∃ k, wMinShape_66 post k I J cn cm so (bI B) 1 := by
    intro B hB
    have h1 : post (bI (B ∧ ho_grow o.2.2)) I J cn cm so := by rw [bI_ext hB]; exact h
    have := pm_shape_loop B ho h1 (max 1 o.2.2.length - 1) 1 (by omega) (by omega)
    rw [bI_ext (show (B ∧ ∀ i, i + 1 < 1 → o.2.2.getD i 0 < o.2.2.getD (i + 1) 0) ↔ B from ⟨fun q => q.1, fun q => ⟨q, fun i hi => by omega⟩⟩)] at this
    exact ⟨_, this⟩
  have no : ¬ ho_shape o → ∃ k, wMinShape_66 post k I J cn cm so 0 1 := by
    intro hn
    have := key False ⟨fun q => q.1.elim, fun q => absurd q hn⟩
    rw [bI_f (fun q => q)] at this
    exact this
  obtain ⟨m0, m1, m2, -, -, -, -⟩ := ho
  unfold wMinShape
  rw [t32_0, t32_1, t32_2, m0, m1, m2]
  refine ⟨v05, fun c => no (fun q => ?_), fun c0 => ⟨v05, fun c => no (fun q => ?_), fun c1 => ⟨v15, fun c => no (fun q => ?_), fun c2 => ⟨v15, fun c => no (fun q => ?_), fun c3 => ⟨v25, fun c => no (fun q => ?_), fun c4 => ⟨v25, fun c => no (fun q => ?_), fun c5 => ?_⟩⟩⟩⟩⟩⟩
  · exact (i0 _).mp c q.1
  · exact (i3 _).mp c q.2.1
  · exact (i0 _).mp c q.2.2.1
  · exact (i3' _).mp c q.2.2.2.1
  · exact (i0 _).mp c q.2.2.2.2.1
  · exact (i7 _).mp c q.2.2.2.2.2.1
  · have := key True ⟨fun q => ⟨Classical.byContradiction fun z => c0 ((i0 _).mpr z), Classical.byContradiction fun z => c1 ((i3 _).mpr z), Classical.byContradiction fun z => c2 ((i0 _).mpr z), Classical.byContradiction fun z => c3 ((i3' _).mpr z), Classical.byContradiction fun z => c4 ((i0 _).mpr z), Classical.byContradiction fun z => c5 ((i7 _).mpr z), q.2⟩, fun q => ⟨trivial, q.2.2.2.2.2.2⟩⟩
    rw [bI_t trivial] at this
    exact this
end MP3
