/-! the class: those that wait (ArrayList), drafts -/
theorem ho_getD_del {wt : List ho_O} {i k : Nat} : (wt.eraseIdx i).getD k ho_O0 = if k < i then wt.getD k ho_O0 else wt.getD (k + 1) ho_O0 := by
  rw [List.getD_eq_getElem?_getD, List.getElem?_eraseIdx]
  by_cases h : k < i
  · rw [if_pos h, if_pos h, List.getD_eq_getElem?_getD]
  · rw [if_neg h, if_neg h, List.getD_eq_getElem?_getD]
section XL
variable {ad : Nat → Nat} {w : fh_T} {al ea : Nat} {wt : List ho_O}
theorem kx_size {post : Int32 → fh_T → Prop} (hL : xL ad w al ea wt) (h : post (nI wt.length) w) : wKXAL_size post w al := by
  obtain ⟨mo, h1, -⟩ := hL
  exact ⟨_, ⟨_, h1, rfl⟩, h⟩
theorem xL.get (hL : xL ad w al ea wt) {k : Nat} (hk : k < wt.length) : ∃ mo f oa, w al = some (.inr (9, [.int mo, .ref ea, .int (nI wt.length)])) ∧ w ea = some (.inl (3, 10, .inr (.inr (.inr (.inr f))))) ∧ (∀ k, k < wt.length → ∃ oa, f k = some oa ∧ xO ad w oa (wt.getD k ho_O0)) ∧ f k = some oa ∧ xO ad w oa (wt.getD k ho_O0) := by
  obtain ⟨mo, h1, ⟨h2, -⟩ | ⟨f, h2, h3⟩⟩ := hL
  · rw [h2] at hk; exact absurd hk (Nat.not_lt_zero _)
  · obtain ⟨oa, h4, h5⟩ := h3 k hk
    exact ⟨mo, f, oa, h1, h2, h3, h4, h5⟩
theorem kx_get {post : Option Nat → fh_T → Prop} {k : Nat} (hL : xL ad w al ea wt) (hl : wt.length ≤ 10) (hk : k < wt.length) (h : ∀ oa, xO ad w oa (wt.getD k ho_O0) → post (some oa) w) : wKXAL_get post w al (nI k) := by
  obtain ⟨mo, f, oa, h1, h2, -, h4, h5⟩ := hL.get hk
  refine ⟨_, ⟨_, h1, rfl⟩, fun c => absurd c (nI_pos (by omega)), fun _ => ⟨fun _ => ⟨_, h1, _, ⟨_, h1, rfl⟩, _, _, _, h2, vp_in_nI (by omega) (by omega), by rw [tN (by omega)]; exact h4, _, rfl, h oa h5⟩, fun c => absurd (nI_lt hk (by omega)) c⟩⟩
theorem kx_remove {post : Option Nat → fh_T → Prop} {i : Nat} (hL : xL ad w al ea wt) (hl : wt.length ≤ 10) (hi : i < wt.length) (h : ∀ oa w', xO ad w oa (wt.getD i ho_O0) → (∀ a, w a ≠ none → a ≠ al → (a = ea → w a = some fh_mark) → w' a = w a) → xL ad w' al ea (wt.eraseIdx i) → post (some oa) w') : wKXAL_remove post w al (nI i) := by
  obtain ⟨mo, f, oa, h1, h2, h3, h4, h5⟩ := hL.get hi
  have nae : al ≠ ea := fx_ne h1 h2 (fun z => nomatch z)
  have hnm : w ea ≠ some fh_mark := by rw [h2]; exact fun z => by cases z
  have nO : ∀ k, k < wt.length → ∀ x, f k = some x → ∃ fs, w x = some (.inr (5, fs)) := fun k hk x hx => by
    obtain ⟨y, e, la, g, o1, -⟩ := h3 k hk
    rw [e] at hx
    cases hx
    exact ⟨_, o1⟩
  refine ⟨_, ⟨_, h1, rfl⟩, fun c => absurd c (nI_pos (by omega)), fun _ => ⟨fun _ => ⟨_, ⟨_, h1, rfl⟩, _, _, _, h2, vp_in_nI (by omega) (by omega), by rw [tN (by omega)]; exact h4, _, h1, _, ⟨_, h1, rfl⟩, _, h1, Nat.le_of_ble_eq_true rfl, fun w4 e4 => ⟨_, ⟨_, fe e4, rfl⟩, ?_⟩⟩, fun c => absurd (nI_lt hi (by omega)) c⟩⟩
  obtain ⟨m, hm⟩ : ∃ m, wt.length = m + 1 := ⟨wt.length - 1, by omega⟩
  rw [hm, nI_pred, nI_leI (by omega) (by omega)]
  have w4e : w4 ea = some (.inl (3, 10, .inr (.inr (.inr (.inr f))))) := by rw [fn e4 nae.symm]; exact h2
  have w4a := fe e4
  -- the end, with f' in the array
  have fin : ∀ w10 f', (∀ a, a ≠ al → a ≠ ea → w10 a = w a) → w10 al = some (.inr (9, [.int (mo + 1), .ref ea, .int (nI (m + 1))])) → w10 ea = some (.inl (3, 10, .inr (.inr (.inr (.inr f'))))) → (∀ k, k < m → f' k = if k < i then f k else f (k + 1)) → wKXAL_fastRemove_34 (fun w_12 => post (some oa) w_12) w10 al ea (nI m) := by
    intro w10 f' g1 g2 g3 g4
    refine ⟨_, g2, Nat.le_of_ble_eq_true rfl, fun w15 e15 => ⟨_, _, by rw [fn e15 nae.symm]; exact g3, vp_in_nI (by omega) (by omega), fun w22 e22 => ?_⟩⟩
    rw [tN (show m < 2 ^ 31 by omega)] at e22
    have hfr : ∀ a, w a ≠ none → a ≠ al → (a = ea → w a = some fh_mark) → w22 a = w a := fun a _ ha hb => by
      have hb' : a ≠ ea := fun z => by rw [z] at hb; exact hnm (hb rfl)
      rw [fn e22 hb', fn e15 ha, g1 a ha hb']
    have hF : xF ad w w22 := fun a e q1 q2 => by
      rw [hfr a (by rw [q1]; exact fun z => nomatch z) (fun z => by
        rw [z, h1] at q1
        cases q1
        rcases q2 with q2 | q2 | q2 <;> cases q2) (fun z => by
        rw [z, h2] at q1
        cases q1
        cases q2.1), q1]
    refine h oa w22 h5 hfr ⟨mo + 1, ?_, Or.inr ⟨_, fe e22, fun k hk => ?_⟩⟩
    · rw [fn e22 nae, fe e15, List.length_eraseIdx, if_pos hi, hm]
      rfl
    · rw [List.length_eraseIdx, if_pos hi, hm] at hk
      rw [va_up_n (by omega), g4 k (by omega), ho_getD_del]
      by_cases q : k < i
      · rw [if_pos q, if_pos q]
        obtain ⟨y, z1, z2⟩ := h3 k (by omega)
        exact ⟨y, z1, z2.fr hF⟩
      · rw [if_neg q, if_neg q]
        obtain ⟨y, z1, z2⟩ := h3 (k + 1) (by omega)
        exact ⟨y, z1, z2.fr hF⟩
  refine ⟨fun c => ?_, fun c => ?_⟩
  · refine fin w4 f (fun a ha _ => fn e4 ha) ?_ w4e (fun k hk => by rw [if_pos (by omega)])
    rw [w4a, hm]
    rfl
  · have hsub : nI m - nI i = nI (m - i) := by
      have : m = i + (m - i) := by omega
      rw [this, ← nI_add, show i + (m - i) - i = m - i by omega, Int32.add_comm, Int32.add_sub_cancel]
    rw [hsub, nI_1]
    refine ⟨_, _, w4e, nI_pos (by omega), nI_pos (by omega), nI_pos (by omega), ?_, ?_, ?_, fun w10 e10 => ?_⟩
    · rw [tN (by omega), tN (by omega)]; omega
    · rw [tN (by omega), tN (by omega)]; omega
    · intro j hj y hy
      rw [tN (by omega)] at hj hy
      obtain ⟨fs, hfs⟩ := nO (i + 1 + j) (by omega) y hy
      exact ⟨fs, by rw [fn e4 (fx_ne hfs h1 (fun z => by cases z))]; exact hfs⟩
    · rw [tN (show i + 1 < 2 ^ 31 by omega), tN (show i < 2 ^ 31 by omega), tN (show m - i < 2 ^ 31 by omega)] at e10
      refine fin w10 _ (fun a ha hb => by rw [fn e10 hb, fn e4 ha]) ?_ (fe e10) (fun k hk => ?_)
      · rw [fn e10 nae, w4a, hm]
        rfl
      · by_cases q : k < i
        · rw [if_pos q, pk_cpy_out (Or.inl q)]
        · rw [if_neg q, pk_cpy_in (by omega) (by omega), show i + 1 + (k - i) = k + 1 by omega]
theorem kx_add11 {post : fh_T → Prop} {w4 : fh_T} {mc ms v ea' : Nat} {mo : Int32} {f : Nat → Option Nat} {fs : List Value} (hl : wt.length ≤ 9) (hv : w4 v = some (.inr (5, fs))) (h1 : w4 al = some (.inr (9, [.int mo, .ref ea', .int (nI wt.length)]))) (h2 : w4 ea' = some (.inl (3, 10, .inr (.inr (.inr (.inr f)))))) (h : ∀ w', (∀ a, a ≠ al → a ≠ ea' → w' a = w4 a) → w' al = some (.inr (9, [.int mo, .ref ea', .int (nI (wt.length + 1))])) → w' ea' = some (.inl (3, 10, .inr (.inr (.inr (.inr (va_up f wt.length (some v))))))) → post w') : wKXAL_add2_11 post w4 mc ms al v ea' (nI wt.length) := by
  have nae : al ≠ ea' := fx_ne h1 h2 (fun z => nomatch z)
  refine ⟨_, _, _, h2, hv, vp_in_nI (by omega) (by omega), fun w17 e17 => ⟨_, by rw [fn e17 nae]; exact h1, Nat.le_of_ble_eq_true rfl, fun w21 e21 => ?_⟩⟩
  rw [tN (show wt.length < 2 ^ 31 by omega)] at e17
  rw [nI_1] at e21
  exact h w21 (fun a ha hb => by rw [fn e21 ha, fn e17 hb]) (fe e21) (by rw [fn e21 nae.symm]; exact fe e17)
theorem kx_add {post : Int32 → fh_T → Prop} {mc ms v : Nat} {o : ho_O} (hL : xL ad w al ea wt) (hl : wt.length ≤ 9) (ho : xO ad w v o) (hmc : 1 ≤ mc) (hms : 10 ≤ ms) (h : ∀ ea' w', (∀ a, w a ≠ none → a ≠ al → (a = ea → w a = some fh_mark) → w' a = w a) → (ea' = ea ∨ w ea' = none) → xL ad w' al ea' (wt ++ [o]) → post 1 w') : wKXAL_add post w mc ms al v := by
  obtain ⟨mo, h1, hc⟩ := id hL
  obtain ⟨la, lf, o1, -⟩ := id ho
  have nva : v ≠ al := fx_ne o1 h1 (fun z => by cases z)
  obtain ⟨c0, m0, z0, r2, r3⟩ := hL.ea
  have nae : al ≠ ea := fx_ne h1 r2 (fun z => nomatch z)
  refine ⟨_, ⟨_, h1, rfl⟩, _, h1, Nat.le_of_ble_eq_true rfl, fun w4 e4 => ⟨_, ⟨_, fe e4, rfl⟩, _, ⟨_, fe e4, rfl⟩, _, fe e4, mc, ms, 0, 0, by omega, by omega, ?_⟩⟩
  have v4 := o1
  rw [← fn e4 nva] at v4
  rcases hc with ⟨hc1, hc2⟩ | ⟨f, hc1, hc2⟩
  · subst hc1
    have m4 : w4 ea = some fh_mark := by rw [fn e4 nae.symm]; exact hc2
    refine ⟨0, Or.inr ⟨rfl, _, m4⟩, fun c => absurd rfl c, fun _ => ⟨_, fe e4, mc, ms, 0, 0, by omega, by omega, _, ⟨_, fe e4, rfl⟩, _, fe e4, mc, ms, 0, 0, by omega, by omega, _, ⟨_, fe e4, rfl⟩, 0, Or.inr ⟨rfl, _, m4⟩, fun c => absurd c (by decide), fun _ => ⟨_, ⟨_, fe e4, rfl⟩, ea, _, m4, fun _ => ⟨10, mc - 1, ms - 10, by decide, by decide, by decide, by omega, by omega, fun q hq w13 e13 => ?_⟩, fun c => absurd rfl c⟩⟩⟩
    have hq0 : w q = none := by
      by_cases z : q = al
      · rw [z, fe e4] at hq; cases hq
      · rw [fn e4 z] at hq; exact hq
    have nqa : q ≠ al := fun z => by rw [z, h1] at hq0; cases hq0
    have nqv : q ≠ v := fun z => by rw [z, o1] at hq0; cases hq0
    refine ⟨_, by rw [fn e13 nqa.symm]; exact fe e4, Nat.le_of_ble_eq_true rfl, fun w18 e18 => ⟨_, rfl, _, rfl, kx_add11 (wt := []) (Nat.zero_le _) ((fn e18 nva).trans ((fn e13 nqv.symm).trans v4)) (fe e18) (by rw [fn e18 nqa]; exact fe e13) (fun w' g1 g2 g3 => ?_)⟩⟩
    · have hfr : ∀ a, w a ≠ none → a ≠ al → (a = ea → w a = some fh_mark) → w' a = w a := fun a ha hb _ => by
        have nq : a ≠ q := fun z => ha (by rw [z]; exact hq0)
        rw [g1 a hb nq, fn e18 hb, fn e13 nq, fn e4 hb]
      have hF : xF ad w w' := fun a e q1 q2 => by
        rw [hfr a (by rw [q1]; exact fun z => nomatch z) (fun z => by
          rw [z, h1] at q1
          cases q1
          rcases q2 with q2 | q2 | q2 <;> cases q2) (fun z => by rw [z]; exact hc2), q1]
      refine h q w' hfr (Or.inr hq0) ⟨_, g2, Or.inr ⟨_, g3, fun k hk => ?_⟩⟩
      have hk0 : k = 0 := by simp at hk; omega
      subst hk0
      exact ⟨v, va_up_s _ _ _, ho.fr hF⟩
  · have m4 : w4 ea = some (.inl (3, 10, .inr (.inr (.inr (.inr f))))) := by rw [fn e4 nae.symm]; exact hc1
    have hnm : w ea ≠ some fh_mark := by rw [hc1]; exact fun z => by cases z
    refine ⟨10, Or.inl ⟨_, m4⟩, fun _ => kx_add11 hl v4 (fe e4) m4 (fun w' g1 g2 g3 => ?_), fun c => ?_⟩
    · have hfr : ∀ a, w a ≠ none → a ≠ al → (a = ea → w a = some fh_mark) → w' a = w a := fun a _ ha hb => by
        have hb' : a ≠ ea := fun z => by rw [z] at hb; exact hnm (hb rfl)
        rw [g1 a ha hb', fn e4 ha]
      have hF : xF ad w w' := fun a e q1 q2 => by
        rw [hfr a (by rw [q1]; exact fun z => nomatch z) (fun z => by
          rw [z, h1] at q1
          cases q1
          rcases q2 with q2 | q2 | q2 <;> cases q2) (fun z => by
          rw [z, hc1] at q1
          cases q1
          cases q2.1), q1]
      refine h ea w' hfr (Or.inl rfl) ⟨_, by rw [List.length_append]; exact g2, Or.inr ⟨_, g3, fun k hk => ?_⟩⟩
      rw [List.length_append] at hk
      by_cases q : k = wt.length
      · subst q
        refine ⟨v, va_up_s _ _ _, ?_⟩
        rw [List.getD_eq_getElem?_getD, List.getElem?_append_right (Nat.le_refl _), Nat.sub_self]
        exact ho.fr hF
      · have hk2 : k < wt.length := by simp at hk; omega
        obtain ⟨y, z1, z2⟩ := hc2 k hk2
        refine ⟨y, by rw [va_up_n q]; exact z1, ?_⟩
        rw [List.getD_eq_getElem?_getD, List.getElem?_append_left hk2, ← List.getD_eq_getElem?_getD]
        exact z2.fr hF
    · exact absurd ((nI_eq (by omega) (by decide)).mp c) (by omega)
theorem kx_clear27 {post : fh_T → Prop} {len : Nat} (hl : len ≤ 10) (h : ∀ w', (∀ a, a ≠ ea → w' a = w a) → (w' ea = w ea ∨ (len ≠ 0 ∧ ∃ f', w' ea = some (.inl (3, 10, .inr (.inr (.inr (.inr f'))))))) → post w') : ∀ d k w1, k + d = len → (∀ a, a ≠ ea → w1 a = w a) → (d ≠ 0 ∨ k ≠ 0 → ∃ f, w1 ea = some (.inl (3, 10, .inr (.inr (.inr (.inr f)))))) → (k = 0 → w1 ea = w ea) → wKXAL_clear_27 post (d + 1) w1 ea (nI len) (nI k) := by
  intro d
  induction d with
  | zero =>
    intro k w1 e hfr hc h0
    have e : k = len := by omega
    subst e
    rw [wKXAL_clear_27_s]
    refine ⟨fun _ => ?_, fun c => absurd (nI_le (Nat.le_refl _) (by omega)) c⟩
    by_cases q : k = 0
    · exact h w1 hfr (Or.inl (h0 q))
    · obtain ⟨f, hf⟩ := hc (Or.inr q)
      exact h w1 hfr (Or.inr ⟨q, f, hf⟩)
  | succ d ih =>
    intro k w1 e hfr hc h0
    obtain ⟨f, hf⟩ := hc (Or.inl (by omega))
    rw [wKXAL_clear_27_s]
    refine ⟨fun c => absurd c (nI_ge (by omega) (by omega)), fun _ => ⟨_, _, hf, vp_in_nI (by omega) (by omega), fun w2 e2 => ?_⟩⟩
    rw [nI_1]
    exact ih (k + 1) w2 (by omega) (fun a ha => by rw [fn e2 ha, hfr a ha]) (fun _ => ⟨_, fe e2⟩) (fun z => by omega)
theorem kx_clear {post : fh_T → Prop} (hL : xL ad w al ea wt) (hl : wt.length ≤ 10) (h : ∀ w', (∀ a, w a ≠ none → a ≠ al → (a = ea → w a = some fh_mark) → w' a = w a) → xL ad w' al ea [] → post w') : wKXAL_clear post w al := by
  obtain ⟨mo, h1, hc⟩ := id hL
  obtain ⟨c0, m0, z0, r2, r3⟩ := hL.ea
  have nae : al ≠ ea := fx_ne h1 r2 (fun z => nomatch z)
  refine ⟨_, ⟨_, h1, rfl⟩, _, h1, Nat.le_of_ble_eq_true rfl, fun w4 e4 => ⟨_, ⟨_, fe e4, rfl⟩, _, ⟨_, fe e4, rfl⟩, _, fe e4, Nat.le_of_ble_eq_true rfl, fun w12 e12 => ⟨_, kx_clear27 (w := w12) hl (fun w' g1 g2 => ?_) wt.length 0 w12 (Nat.zero_add _) (fun _ _ => rfl) (fun z => ?_) (fun _ => rfl)⟩⟩⟩
  · have a12 := fe e12
    have e12e : w12 ea = w ea := by rw [fn e12 nae.symm, fn e4 nae.symm]
    refine h w' (fun a _ ha hb => ?_) ⟨_, by rw [g1 al nae]; exact a12, ?_⟩
    · by_cases q : a = ea
      · rcases g2 with g2 | ⟨g0, f', g2⟩
        · rw [q, g2, e12e]
        · rcases hc with ⟨hc1, hc2⟩ | ⟨f, hc1, hc2⟩
          · rw [hc1] at g0
            exact absurd rfl g0
          · have := hb q
            rw [q, hc1] at this
            cases this
      · rw [g1 a q, fn e12 ha, fn e4 ha]
    · rcases g2 with g2 | ⟨g0, f', g2⟩
      · rcases hc with ⟨hc1, hc2⟩ | ⟨f, hc1, hc2⟩
        · exact Or.inl ⟨rfl, by rw [g2, e12e]; exact hc2⟩
        · exact Or.inr ⟨f, by rw [g2, e12e]; exact hc1, fun k hk => absurd hk (Nat.not_lt_zero _)⟩
      · exact Or.inr ⟨f', g2, fun k hk => absurd hk (Nat.not_lt_zero _)⟩
  · rcases hc with ⟨hc1, hc2⟩ | ⟨f, hc1, hc2⟩
    · subst hc1
      exact absurd rfl (z.resolve_right (fun q => q rfl))
    · exact ⟨f, by rw [fn e12 nae.symm, fn e4 nae.symm]; exact hc1⟩
end XL
