/-! the class: rows of known ones -/
theorem fx_ne {w : fh_T} {a b : Nat} {x y : fh_E} (ha : w a = some x) (hb : w b = some y) (h : x ≠ y) : a ≠ b := fun e => h (by rw [e] at ha; exact Option.some.inj (ha.symm.trans hb))
theorem fe {w w' : fh_T} {q : Nat} {x : fh_E} (e : w' = fh_up w q x) : w' q = some x := by rw [e]; exact fh_up_s _ _ _
theorem fn {w w' : fh_T} {q a : Nat} {x : fh_E} (e : w' = fh_up w q x) (h : a ≠ q) : w' a = w a := by rw [e, fh_up_n h]
def xE (w w' : fh_T) : Prop := ∀ a, w a ≠ none → w' a = w a
theorem xE.rf {w : fh_T} : xE w w := fun _ _ => rfl
theorem xE.tr {w w1 w2 : fh_T} (h : xE w w1) (h2 : xE w1 w2) : xE w w2 := fun a q => by rw [h2 a (by rw [h a q]; exact q), h a q]
theorem xE.at {w w' : fh_T} (h : xE w w') {a : Nat} {e : fh_E} (q : w a = some e) : w' a = some e := by rw [h a (by rw [q]; exact fun z => nomatch z)]; exact q
theorem xE.fr {ad : Nat → Nat} {w w' : fh_T} (h : xE w w') : xF ad w w' := fun _ _ q _ => h.at q
theorem xE.up {w w' : fh_T} {q : Nat} {e : fh_E} (hq : w q = none) (h : w' = fh_up w q e) : xE w w' := fun a z => by
  rw [h, fh_up_n (fun e2 => z (by rw [e2]; exact hq))]
section XS
variable {ad mb : Nat → Nat} {K : Nat → ho_M} {n : Nat} {w : fh_T}
theorem xRow.fr {w' : fh_T} {row pl : Nat} {L : List Nat} (h : xRow w row pl mb L) (h1 : w' row = w row) (h2 : w' pl = w pl) : xRow w' row pl mb L := by
  obtain ⟨a, b, f, c, d⟩ := h
  exact ⟨by rw [h1]; exact a, b, f, by rw [h2]; exact c, d⟩
theorem xRow.mbe {row pl : Nat} {L : List Nat} {mb' : Nat → Nat} (h : xRow w row pl mb L) (e : ∀ g, g ∈ L → mb' g = mb g) : xRow w row pl mb' L := by
  obtain ⟨a, b, f, c, d⟩ := h
  refine ⟨a, b, f, c, fun k hk => ?_⟩
  rw [d k hk, e]
  rw [List.getD_eq_getElem?_getD, List.getElem?_eq_getElem hk]
  exact List.getElem_mem hk
theorem getD_mem {L : List Nat} {k : Nat} (hk : k < L.length) : L.getD k 0 ∈ L := by
  rw [List.getD_eq_getElem?_getD, List.getElem?_eq_getElem hk]
  exact List.getElem_mem hk
theorem getD_last {P : List Nat} {g : Nat} : (P ++ [g]).getD P.length 0 = g := by
  rw [List.getD_eq_getElem?_getD, List.getElem?_append_right (Nat.le_refl _), Nat.sub_self]
  rfl
theorem getD_left {P Q : List Nat} {j : Nat} (h : j < P.length) : (P ++ Q).getD j 0 = P.getD j 0 := by
  rw [List.getD_eq_getElem?_getD, List.getElem?_append_left h, List.getD_eq_getElem?_getD]
theorem getD_ins {L : List Nat} {p g k : Nat} (hp : p ≤ L.length) (hk : k < L.length + 1) : (L.take p ++ g :: L.drop p).getD k 0 = if k < p then L.getD k 0 else if k = p then g else L.getD (k - 1) 0 := by
  have hl : (L.take p).length = p := by rw [List.length_take]; omega
  rcases Nat.lt_trichotomy k p with q | q | q
  · rw [if_pos q, List.getD_eq_getElem?_getD, List.getElem?_append_left (by omega), List.getElem?_take_of_lt q, List.getD_eq_getElem?_getD]
  · rw [if_neg (by omega), if_pos q, q, List.getD_eq_getElem?_getD, List.getElem?_append_right (by omega), hl, Nat.sub_self]
    rfl
  · rw [if_neg (by omega), if_neg (by omega), List.getD_eq_getElem?_getD, List.getElem?_append_right (by omega), hl, show k - p = (k - 1 - p) + 1 by omega, List.getElem?_cons_succ, List.getElem?_drop, show p + (k - 1 - p) = k - 1 by omega, List.getD_eq_getElem?_getD]
theorem kx_at {post : Option Nat → fh_T → Prop} {row pl : Nat} {L : List Nat} {x : Int32} (hr : xRow w row pl mb L) (h0 : (x < 0 ∨ ¬ x < nI L.length) → post none w) (h1 : ∀ k, k < L.length → x = nI k → post (some (mb (L.getD k 0))) w) : wKXRo_at post w row x := by
  obtain ⟨a, b, f, c, d⟩ := hr
  refine ⟨fun q => h0 (Or.inl q), fun q => ⟨_, ⟨_, a, rfl⟩, fun q2 => ?_, fun q2 => h0 (Or.inr q2)⟩⟩
  obtain ⟨k, hk, e⟩ := nI_of q
  subst e
  rw [nI_ltI hk (by omega)] at q2
  exact ⟨_, ⟨_, a, rfl⟩, _, _, _, c, vp_in_nI (by omega) (by omega), by rw [tN hk]; exact d k q2, h1 k q2 rfl⟩
theorem kx_ins27 {post : fh_T → Prop} {row pl v p : Nat} {L : List Nat} {fs : List Value} (hr : xRow w row pl mb L) (hv : w v = some (.inr (7, fs))) (hm : ∀ g, g ∈ L → ∃ fs, w (mb g) = some (.inr (7, fs))) (hp : p ≤ L.length) (hl : L.length < 40) (h : ∀ w', (∀ a, a ≠ row → a ≠ pl → w' a = w a) → (∀ mb' g, (∀ x, x ∈ L → mb' x = mb x) → mb' g = v → xRow w' row pl mb' (L.take p ++ g :: L.drop p)) → post w') : ∀ d k w1, k = p + d → k ≤ L.length → (∀ a, a ≠ pl → w1 a = w a) → (∃ f, w1 pl = some (.inl (0, 40, .inr (.inr (.inr (.inr f))))) ∧ (∀ j, j < k → f j = some (mb (L.getD j 0))) ∧ ∀ j, k ≤ j → j < L.length → f (j + 1) = some (mb (L.getD j 0))) → wKXRo_insert_27 post (d + 1) w1 row (nI p) v (nI k) := by
  obtain ⟨r1, r2, f0, r3, r4⟩ := hr
  have nrp : row ≠ pl := fx_ne r1 r3 (fun z => nomatch z)
  have nvp : v ≠ pl := fx_ne hv r3 (fun z => nomatch z)
  have nvr : v ≠ row := fx_ne hv r1 (fun z => by cases z)
  intro d
  induction d with
  | zero =>
    intro k w1 e hk hfr ⟨f, p1, p2, p3⟩
    have e : k = p := by omega
    subst e
    rw [wKXRo_insert_27_s, tN (show k < 2 ^ 31 by omega)]
    have wr : w1 row = some (.inr (3, [.ref pl, .int (nI L.length)])) := by rw [hfr row nrp]; exact r1
    have wv : w1 v = some (.inr (7, fs)) := by rw [hfr v nvp]; exact hv
    refine ⟨fun _ => ⟨_, ⟨_, wr, rfl⟩, _, _, _, p1, wv, vp_in_nI (by omega) (by omega), fun w2 e2 => ?_⟩, fun c => absurd (nI_le (Nat.le_refl _) (by omega)) c⟩
    have wr2 : w2 row = some (.inr (3, [.ref pl, .int (nI L.length)])) := by rw [e2, fh_up_n nrp]; exact wr
    refine ⟨_, ⟨_, wr2, rfl⟩, _, wr2, Nat.le_of_ble_eq_true rfl, fun w3 e3 => h w3 (fun a ha hb => by rw [e3, fh_up_n ha, e2, fh_up_n hb, hfr a hb]) (fun mb' g hmb hg => ?_)⟩
    refine ⟨?_, ?_, _, by rw [e3, fh_up_n nrp.symm, e2]; exact fh_up_s _ _ _, fun j hj => ?_⟩
    · rw [e3, fh_up_s, nI_1]
      have : (L.take k ++ g :: L.drop k).length = L.length + 1 := by simp; omega
      rw [this]
      rfl
    · simp; omega
    · have hj2 : j < L.length + 1 := by simp at hj; omega
      rw [getD_ins hk hj2]
      rcases Nat.lt_trichotomy j k with q | q | q
      · rw [if_pos q, va_up_n (by omega), p2 j q, hmb _ (getD_mem (by omega))]
      · rw [if_neg (by omega), if_pos q, q, va_up_s, hg]
      · rw [if_neg (by omega), if_neg (by omega), va_up_n (by omega), hmb _ (getD_mem (by omega))]
        have := p3 (j - 1) (by omega) (by omega)
        rw [show j - 1 + 1 = j by omega] at this
        exact this
  | succ d ih =>
    intro k w1 e hk hfr ⟨f, p1, p2, p3⟩
    obtain ⟨k', rfl⟩ : ∃ k', k = k' + 1 := ⟨k - 1, by omega⟩
    have wr : w1 row = some (.inr (3, [.ref pl, .int (nI L.length)])) := by rw [hfr row nrp]; exact r1
    obtain ⟨fs2, hfs⟩ := hm _ (getD_mem (show k' < L.length by omega))
    have nmp : mb (L.getD k' 0) ≠ pl := fx_ne hfs r3 (fun z => nomatch z)
    rw [wKXRo_insert_27_s]
    have v1 : vp_in (nI (k' + 1) - 1) 40 := by rw [nI_pred]; exact vp_in_nI (by omega) (by omega)
    have f1 : f (Int32.toNatClampNeg (nI (k' + 1) - 1)) = some (mb (L.getD k' 0)) := by rw [nI_pred, tN (by omega)]; exact p2 k' (by omega)
    have m1 : w1 (mb (L.getD k' 0)) = some (.inr (7, fs2)) := by rw [hfr _ nmp]; exact hfs
    refine ⟨fun c => absurd c (nI_ge (by omega) (by omega)), fun _ => ⟨_, ⟨_, wr, rfl⟩, _, ⟨_, wr, rfl⟩, _, _, _, p1, v1, f1, _, _, _, p1, m1, vp_in_nI (by omega) (by omega), fun w2 e2 => ?_⟩⟩
    · rw [pk_m1]
      rw [tN (show k' + 1 < 2 ^ 31 by omega)] at e2
      refine ih k' w2 (by omega) (by omega) (fun a ha => by rw [e2, fh_up_n ha, hfr a ha]) ⟨_, by rw [e2]; exact fh_up_s _ _ _, fun j hj => by rw [va_up_n (by omega)]; exact p2 j (by omega), fun j h1 h2 => ?_⟩
      by_cases q : j = k'
      · rw [q, va_up_s]
      · rw [va_up_n (by omega)]; exact p3 j (by omega) h2
theorem kx_insert {post : fh_T → Prop} {row pl v p : Nat} {L : List Nat} {fs : List Value} (hr : xRow w row pl mb L) (hv : w v = some (.inr (7, fs))) (hm : ∀ g, g ∈ L → ∃ fs, w (mb g) = some (.inr (7, fs))) (hp : p ≤ L.length) (hl : L.length < 40) (h : ∀ w', (∀ a, a ≠ row → a ≠ pl → w' a = w a) → (∀ mb' g, (∀ x, x ∈ L → mb' x = mb x) → mb' g = v → xRow w' row pl mb' (L.take p ++ g :: L.drop p)) → post w') : wKXRo_insert post w row (nI p) v := by
  have hr' := hr
  obtain ⟨r1, r2, f0, r3, r4⟩ := hr'
  refine ⟨fun c => absurd c (nI_pos (by omega)), fun _ => ⟨_, ⟨_, r1, rfl⟩, fun c => absurd c (nI_nlt hp (by omega)), fun _ => ⟨_, ⟨_, r1, rfl⟩, fun _ => ⟨_, ⟨_, r1, rfl⟩, _, kx_ins27 hr hv hm hp hl h (L.length - p) L.length w (by omega) (Nat.le_refl _) (fun _ _ => rfl) ⟨f0, r3, r4, fun j h1 h2 => by omega⟩⟩, fun c => absurd ?_ c⟩⟩⟩
  exact nI_lt (b := 40) hl (by decide)
theorem kx_rem5 {post : fh_T → Prop} {row pl : Nat} {L : List Nat} {set : Int64} {M : Nat → ho_M} (hr : xRow w row pl mb L) (hm : ∀ g, g ∈ L → g < 64 ∧ xM ad w (mb g) g (M g)) (h : ∀ w', (∀ a, a ≠ row → a ≠ pl → w' a = w a) → xRow w' row pl mb (L.filter (fun g => !hb set g)) → post w') : ∀ d k w1, k + d = L.length → (∀ a, a ≠ pl → w1 a = w a) → (∃ f, w1 pl = some (.inl (0, 40, .inr (.inr (.inr (.inr f))))) ∧ (∀ j, j < ((L.take k).filter (fun g => !hb set g)).length → f j = some (mb (((L.take k).filter (fun g => !hb set g)).getD j 0))) ∧ ∀ j, k ≤ j → j < L.length → f j = some (mb (L.getD j 0))) → wKXRo_removeAll_5 post (d + 1) w1 row set (nI ((L.take k).filter (fun g => !hb set g)).length) (nI k) := by
  obtain ⟨r1, r2, f0, r3, r4⟩ := hr
  have nrp : row ≠ pl := fx_ne r1 r3 (fun z => nomatch z)
  intro d
  induction d with
  | zero =>
    intro k w1 e hfr ⟨f, p1, p2, p3⟩
    have wr : w1 row = some (.inr (3, [.ref pl, .int (nI L.length)])) := by rw [hfr row nrp]; exact r1
    have et : L.take k = L := List.take_of_length_le (by omega)
    rw [et] at p2 ⊢
    have hle : (L.filter (fun g => !hb set g)).length ≤ L.length := List.length_filter_le _ _
    rw [wKXRo_removeAll_5_s]
    refine ⟨_, ⟨_, wr, rfl⟩, fun _ => ⟨_, wr, Nat.le_of_ble_eq_true rfl, fun w2 e2 => h w2 (fun a ha hb' => by rw [e2, fh_up_n ha, hfr a hb']) ⟨?_, by omega, f, ?_, p2⟩⟩, fun c => absurd (nI_le (by omega) (by omega)) c⟩
    · rw [e2]; exact fh_up_s _ _ _
    · rw [e2, fh_up_n nrp.symm]; exact p1
  | succ d ih =>
    intro k w1 e hfr ⟨f, p1, p2, p3⟩
    have hk : k < L.length := by omega
    have wr : w1 row = some (.inr (3, [.ref pl, .int (nI L.length)])) := by rw [hfr row nrp]; exact r1
    obtain ⟨hg, oa, m1, -⟩ := hm _ (getD_mem hk)
    have nmp : mb (L.getD k 0) ≠ pl := fx_ne m1 r3 (fun z => nomatch z)
    have m1' := m1
    rw [← hfr _ nmp] at m1'
    have hpl : ((L.take k).filter (fun g => !hb set g)).length ≤ k := by
      refine Nat.le_trans (List.length_filter_le _ _) ?_
      rw [List.length_take]; omega
    have vk : vp_in (nI k) 40 := vp_in_nI (by omega) (by omega)
    have fk : f (Int32.toNatClampNeg (nI k)) = some (mb (L.getD k 0)) := by rw [tN (by omega)]; exact p3 k (Nat.le_refl _) hk
    have et : L.take (k + 1) = L.take k ++ [L.getD k 0] := by
      rw [List.take_succ, List.getD_eq_getElem?_getD, List.getElem?_eq_getElem hk]
      rfl
    rw [wKXRo_removeAll_5_s]
    refine ⟨_, ⟨_, wr, rfl⟩, fun c => absurd c (nI_ge hk (by omega)), fun _ => ⟨_, ⟨_, wr, rfl⟩, _, _, _, p1, vk, fk, _, ⟨_, m1', rfl⟩, kx_cont hg (bI_nr (fun q => ?_) (fun q => ⟨_, ⟨_, wr, rfl⟩, _, ⟨_, wr, rfl⟩, _, _, _, p1, vk, fk, _, _, _, p1, m1', vp_in_nI (by omega) (by omega), fun w2 e2 => ?_⟩))⟩⟩
    · rw [nI_1]
      have ef : (L.take (k + 1)).filter (fun g => !hb set g) = (L.take k).filter (fun g => !hb set g) := by
        rw [et, List.filter_append, List.filter_cons, if_neg (by rw [q]; decide)]
        simp
      have := ih (k + 1) w1 (by omega) hfr ⟨f, p1, by rw [ef]; exact p2, fun j h1 h2 => p3 j (by omega) h2⟩
      rw [ef] at this
      exact this
    · have q' : hb set (L.getD k 0) = false := by cases z : hb set (L.getD k 0) <;> simp_all
      have ef : (L.take (k + 1)).filter (fun g => !hb set g) = (L.take k).filter (fun g => !hb set g) ++ [L.getD k 0] := by
        rw [et, List.filter_append, List.filter_cons, if_pos (by rw [q']; rfl)]
        rfl
      rw [nI_1, nI_1]
      rw [tN (show ((L.take k).filter (fun g => !hb set g)).length < 2 ^ 31 by omega)] at e2
      have := ih (k + 1) w2 (by omega) (fun a ha => by rw [e2, fh_up_n ha, hfr a ha]) ⟨_, by rw [e2]; exact fh_up_s _ _ _, fun j hj => ?_, fun j h1 h2 => ?_⟩
      · rw [ef, List.length_append] at this
        exact this
      · rw [ef] at hj ⊢
        rw [List.length_append] at hj
        by_cases z : j = ((L.take k).filter (fun g => !hb set g)).length
        · rw [z, va_up_s, getD_last]
        · have hj2 : j < ((L.take k).filter (fun g => !hb set g)).length := by simp at hj; omega
          rw [va_up_n z, p2 j hj2, getD_left hj2]
      · rw [va_up_n (by omega)]
        exact p3 j (by omega) h2
theorem kx_removeAll {post : fh_T → Prop} {row pl : Nat} {L : List Nat} {set : Int64} {M : Nat → ho_M} (hr : xRow w row pl mb L) (hm : ∀ g, g ∈ L → g < 64 ∧ xM ad w (mb g) g (M g)) (h : ∀ w', (∀ a, a ≠ row → a ≠ pl → w' a = w a) → xRow w' row pl mb (L.filter (fun g => !hb set g)) → post w') : wKXRo_removeAll post w row set := by
  have hr' := hr
  obtain ⟨r1, r2, f0, r3, r4⟩ := hr'
  exact ⟨_, kx_rem5 hr hm h L.length 0 w (Nat.zero_add _) (fun _ _ => rfl) ⟨f0, r3, fun j hj => by simp at hj, fun j _ hj => r4 j hj⟩⟩
theorem kx_Me_init {post : fh_T → Prop} {q a1 : Nat} {a2 a3 : Int32} {a4 a5 : Int64} {v0 v1 v2 v3 v4 : Value} (hq : w q = some (.inr (7, [v0, v1, v2, v3, v4]))) (h : ∀ w', (∀ a, a ≠ q → w' a = w a) → w' q = some (.inr (7, [.ref a1, .int a2, .int a3, .long a4, .long a5])) → post w') : wKXMe_init post w q a1 a2 a3 a4 a5 := by
  exact ⟨_, hq, Nat.le_of_ble_eq_true rfl, fun w2 e2 => ⟨_, fe e2, Nat.le_of_ble_eq_true rfl, fun w6 e6 => ⟨_, fe e6, Nat.le_of_ble_eq_true rfl, fun w10 e10 => ⟨_, fe e10, Nat.le_of_ble_eq_true rfl, fun w14 e14 => ⟨_, fe e14, Nat.le_of_ble_eq_true rfl, fun w18 e18 => h w18 (fun a ha => by rw [e18, fh_up_n ha, e14, fh_up_n ha, e10, fh_up_n ha, e6, fh_up_n ha, e2, fh_up_n ha]) (fe e18)⟩⟩⟩⟩⟩
theorem kx_cand10 {post : Option Nat → fh_T → Prop} {mc ms a : Nat} {o : ho_O} (hV : xV ad mb K n w) (hok : ho_ok K n) (ho : xO ad w a o) (hmc : 1 ≤ mc) (hms : 5 ≤ ms) (h : ∀ q w', xE w w' → w q = none → xM ad w' q n (ho_cand K n o) → post (some q) w') : ∀ d j, j + d = o.2.2.length → (ho_cd K n o.2.2 j).1 ≤ 41 → wKXKn_candidate_10 post (d + 1) w mc ms (ad 1) a (nI (ho_cd K n o.2.2 j).1) (ho_cd K n o.2.2 j).2.1 (ho_cd K n o.2.2 j).2.2 (nI j) := by
  obtain ⟨hn, c1, c7, f, c8, hf⟩ := hV.cells
  have ho' := ho
  obtain ⟨la, lf, o1, o2, o3, -, -, o4⟩ := ho'
  intro d
  induction d with
  | zero =>
    intro j e hb41
    have e : j = o.2.2.length := by omega
    subst e
    rw [wKXKn_candidate_10_s]
    refine ⟨_, ⟨_, o1, rfl⟩, _, _, o2, fun _ => ⟨mc - 1, ms - 5, by omega, by omega, fun q hq w8 e8 => ?_⟩, fun c => absurd (nI_le (Nat.le_refl _) (by omega)) c⟩
    have hE := xE.up hq e8
    refine ⟨_, ⟨_, hE.at c1, rfl⟩, _, ⟨_, hE.at c7, rfl⟩, kx_Me_init (by rw [e8]; exact fh_up_s _ _ _) (fun w' hfr hw' => ?_)⟩
    have hE2 : xE w w' := fun b hb' => by
      have nb : b ≠ q := fun z => hb' (by rw [z]; exact hq)
      rw [hfr b nb, hE b hb']
    exact h q w' hE2 hq ⟨a, hw', ho.fr hE2.fr⟩
  | succ d ih =>
    intro j e hb41
    have hj : j < o.2.2.length := by omega
    have fj : lf (Int32.toNatClampNeg (nI j)) = o.2.2.getD j 0 := by rw [tN (by omega)]; exact o3 j hj
    rw [wKXKn_candidate_10_s]
    refine ⟨_, ⟨_, o1, rfl⟩, _, _, o2, fun c => absurd c (nI_ge hj (by omega)), fun _ => ⟨_, ⟨_, o1, rfl⟩, _, _, o2, vp_in_nI hj (by omega), _, c1, kx_find hV hok.2.1 ?_⟩⟩
    rw [fj]
    have := ih (j + 1) (by omega)
    rw [ho_cd] at this
    cases q : ho_find K (o.2.2.getD j 0) n with
    | none =>
      rw [q] at this
      refine ⟨fun _ => ?_, fun y c => by cases c⟩
      rw [nI_1]
      exact this hb41
    | some g =>
      rw [q] at this
      have hg := (ho_find_some q).1
      have hdep := (hok.2.2 g hg).2.2.2.2.1
      obtain ⟨oc, m1, -⟩ := hV.2.2 g hg
      refine ⟨fun c => (by cases c), fun y c => ?_⟩
      cases c
      refine ⟨_, ⟨_, m1, rfl⟩, _, ⟨_, m1, rfl⟩, _, ⟨_, m1, rfl⟩, ?_⟩
      have t := this (by dsimp only; omega)
      dsimp only at t
      rw [nI_1, nI_1]
      have em : (if nI (ho_cd K n o.2.2 j).1 < nI ((K g).2.1 + 1) then nI ((K g).2.1 + 1) else nI (ho_cd K n o.2.2 j).1) = nI (max (ho_cd K n o.2.2 j).1 ((K g).2.1 + 1)) := by
        by_cases z : (ho_cd K n o.2.2 j).1 < (K g).2.1 + 1
        · rw [if_pos (nI_lt z (by omega)), Nat.max_eq_right (by omega)]
        · rw [if_neg (nI_nlt (by omega) (by omega)), Nat.max_eq_left (by omega)]
      rw [em]
      exact t
theorem kx_candidate {post : Option Nat → fh_T → Prop} {mc ms a : Nat} {o : ho_O} (hV : xV ad mb K n w) (hok : ho_ok K n) (ho : xO ad w a o) (hmc : 1 ≤ mc) (hms : 5 ≤ ms) (h : ∀ q w', xE w w' → w q = none → xM ad w' q n (ho_cand K n o) → post (some q) w') : wKXKn_candidate post w mc ms (ad 1) a := ⟨_, kx_cand10 hV hok ho hmc hms h _ 0 (Nat.zero_add _) (by show 1 ≤ 41; omega)⟩
end XS
