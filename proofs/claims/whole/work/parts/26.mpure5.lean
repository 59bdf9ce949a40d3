/-! the reference: is it right (the end); entering -/
theorem mi_g {I : Nat → Nat → Int32} {k' j k g : Nat} {x : Int32} (h : g ≠ j) : mi_up I k' j x k g = I k g := by
  by_cases hk : k = k'
  · rw [hk, mi_s, pk_un h]
  · rw [mi_n hk]
theorem mj_g {J : Nat → Nat → Int64} {k' j k g : Nat} {x : Int64} (h : g ≠ j) : mj_up J k' j x k g = J k g := by
  by_cases hk : k = k'
  · rw [hk, mj_s, pk_uLn h]
  · rw [mj_n hk]
section MP5
variable {I : Nat → Nat → Int32} {J : Nat → Nat → Int64} {cn : Int32} {cm : Int64} {so : Int32} {K : Nat → ho_M} {n : Nat} {o : ho_O}
theorem pm_r97 {post : Int32 → (Nat → Nat → Int32) → (Nat → Nat → Int64) → Int32 → Int64 → Int32 → Prop} (A : Prop) (hk : mKn K n I J cn) (ho : mNum (I 9) (J 7) o) (h : post (bI (A ∧ ∀ g, g < n → ¬ ho_lock K g (ho_cand K n o) ∨ ∃ i, i < n ∧ ho_cond K (ho_cand K n o).2.2.2 o g i)) I J cn cm so) : ∀ d g, g + d = n → wMisRight_97 post (d + 1) I J cn cm so (ho_cand K n o).2.2.2 (bI (A ∧ ∀ g', g' < g → ¬ ho_lock K g' (ho_cand K n o) ∨ ∃ i, i < n ∧ ho_cond K (ho_cand K n o).2.2.2 o g' i)) (nI g) := by
  have hn := hk.1
  have hc := hk.2.1
  have ho' := ho
  obtain ⟨m0, m1, m2, m3, m4, m5, m6⟩ := ho
  intro d
  induction d with
  | zero =>
    intro g hg
    have e : g = n := by omega
    subst e
    rw [wMisRight_97_s]
    exact ⟨fun _ => ⟨bI_nar _, h⟩, fun c => absurd (by rw [hc]; exact nI_le (Nat.le_refl _) (by omega)) c⟩
  | succ d ih =>
    intro g hg
    have hgn : g < n := by omega
    have nx := ih (g + 1) (by omega)
    have vg : vp_in (nI g) 40 := vp_in_nI (by omega) (by omega)
    obtain ⟨-, ⟨f0, f1, f2, -⟩, f3, -⟩ := hk.2.2.2 g hgn
    have f0' : I 0 g = (K g).1.2.1.1 := f0
    have f1' : I 1 g = (K g).1.2.1.2.1 := f1
    have f2' : I 2 g = (K g).1.2.1.2.2.1 := f2
    generalize hB : (A ∧ ∀ g', g' < g → ¬ ho_lock K g' (ho_cand K n o) ∨ ∃ i, i < n ∧ ho_cond K (ho_cand K n o).2.2.2 o g' i) = B at *
    have eB : bI (A ∧ ∀ g', g' < g + 1 → ¬ ho_lock K g' (ho_cand K n o) ∨ ∃ i, i < n ∧ ho_cond K (ho_cand K n o).2.2.2 o g' i) = bI (B ∧ (¬ ho_lock K g (ho_cand K n o) ∨ ∃ i, i < n ∧ ho_cond K (ho_cand K n o).2.2.2 o g i)) := by
      rw [← hB]
      refine bI_ext ⟨fun q => ⟨⟨q.1, fun g' h' => q.2 g' (by omega)⟩, q.2 g (by omega)⟩, fun q => ⟨q.1.1, fun g' h' => ?_⟩⟩
      rcases Nat.lt_or_ge g' g with z | z
      · exact q.1.2 g' z
      · rw [show g' = g by omega]; exact q.2
    rw [eB, ← nI_1] at nx
    have no : ¬ ho_lock K g (ho_cand K n o) → ∃ k, wMisRight_171 post (wMisRight_97 post (d + 1)) k I J cn cm so (ho_cand K n o).2.2.2 (bI B) (nI g) 0 0 0 := by
      intro hl
      have h271 := pm_r271 (post := post) (K97 := wMisRight_97 post (d + 1)) (I := I) (J := J) (cn := cn) (cm := cm) (so := so) (set := (ho_cand K n o).2.2.2) (v4 := nI g) B False False (by
        rw [bI_ext (show (B ∧ (¬ False ∨ False)) ↔ (B ∧ (¬ ho_lock K g (ho_cand K n o) ∨ ∃ i, i < n ∧ ho_cond K (ho_cand K n o).2.2.2 o g i)) from ⟨fun q => ⟨q.1, Or.inl hl⟩, fun q => ⟨q.1, Or.inl id⟩⟩)]
        exact nx)
      rw [bI_f (P := False) id] at h271
      refine ⟨1, ?_⟩
      rw [wMisRight_171_s]
      exact ⟨fun _ => h271, fun _ => ⟨fun _ => h271, fun c => absurd rfl c⟩⟩
    rw [wMisRight_97_s]
    refine ⟨fun c => absurd (by rw [hc] at c; exact c) (nI_ge hgn (by omega)), fun _ => pm_in1 (by omega) (bI_br (fun q => no (fun z => q z.1)) (fun q1 => ?_))⟩
    rw [tN (show g < 2 ^ 31 by omega), t32_2, t32_0, m2, m0, f0', f1', f2']
    refine ⟨vg, fun c => no (fun z => c z.2.1), fun q2 => ⟨vg, v25, fun c => no (fun z => c z.2.2.1), fun q3 => ⟨vg, v05, fun c => no (fun z => z.2.2.2 c), fun q4 => ?_⟩⟩⟩
    have hl : ho_lock K g (ho_cand K n o) := ⟨q1, q2, q3, q4⟩
    have := pm_r171 (post := post) (K97 := wMisRight_97 post (d + 1)) (set := (ho_cand K n o).2.2.2) (cm := cm) (so := so) (g := g) B hk hgn ho' (by
      rw [bI_ext (show (B ∧ ∃ i, i < n ∧ ho_cond K (ho_cand K n o).2.2.2 o g i) ↔ (B ∧ (¬ ho_lock K g (ho_cand K n o) ∨ ∃ i, i < n ∧ ho_cond K (ho_cand K n o).2.2.2 o g i)) from ⟨fun q => ⟨q.1, Or.inr q.2⟩, fun q => ⟨q.1, q.2.elim (fun z => absurd hl z) id⟩⟩)]
      exact nx) n 0 (by omega)
    rw [bI_f (P := ∃ i, i < 0 ∧ ho_cond K (ho_cand K n o).2.2.2 o g i) (fun ⟨i, hi, _⟩ => by omega)] at this
    exact ⟨_, this⟩
theorem pm_isRight {post : Int32 → (Nat → Nat → Int32) → (Nat → Nat → Int64) → Int32 → Int64 → Int32 → Prop} (hk : mKn K n I J cn) (ho : mNum (I 9) (J 7) o) (hf : ∀ j, j < o.2.2.length → ∃ g, ho_find K (o.2.2.getD j 0) n = some g) (h : post (bI (ho_right K n (ho_cand K n o))) I J cn cm so) : wMisRight post I J cn cm so := by
  refine pm_pastOf hk ho hf ?_
  rw [bI_ext (ho_right_iff hk.1)] at h
  have h97 := pm_r97 (ho_pk K n o.2.2 o.2.2.length) hk ho h n 0 (by omega)
  rw [bI_ext (show (ho_pk K n o.2.2 o.2.2.length ∧ ∀ g', g' < 0 → ¬ ho_lock K g' (ho_cand K n o) ∨ ∃ i, i < n ∧ ho_cond K (ho_cand K n o).2.2.2 o g' i) ↔ ho_pk K n o.2.2 o.2.2.length from ⟨fun q => q.1, fun q => ⟨q, fun g' h' => by omega⟩⟩)] at h97
  have h10 := pm_r10 (post := post) (cm := cm) (so := so) hk ho hf ⟨_, h97⟩ o.2.2.length 0 (by omega)
  rw [bI_t (P := ho_pk K n o.2.2 0) (fun a ha => by omega)] at h10
  exact ⟨_, h10⟩
/-- the known ones stand where the arrays are as before below n -/
theorem mKn.ext {I' : Nat → Nat → Int32} {J' : Nat → Nat → Int64} (h : mKn K n I J cn) (hi : ∀ k g, k ≤ 5 → g < n → I' k g = I k g) (h0 : ∀ g, g < n → J' 0 g = J 0 g) (h1 : ∀ a, a < 4 * n → J' 1 a = J 1 a) (h2 : ∀ g, g < n → J' 2 g = J 2 g) : mKn K n I' J' cn := by
  obtain ⟨q1, q2, q3, q4⟩ := h
  refine ⟨q1, q2, q3, fun g hg => ?_⟩
  obtain ⟨a, ⟨b0, b1, b2, b3, b4, b5, b6⟩, c, d, e⟩ := q4 g hg
  refine ⟨by rw [h0 g hg]; exact a, ⟨?_, ?_, ?_, ?_, ?_, b5, fun j hj => ?_⟩, by rw [h2 g hg]; exact c, by rw [hi 5 g (by omega) hg]; exact d, e⟩
  · show I' 0 g = _; rw [hi 0 g (by omega) hg]; exact b0
  · show I' 1 g = _; rw [hi 1 g (by omega) hg]; exact b1
  · show I' 2 g = _; rw [hi 2 g (by omega) hg]; exact b2
  · show I' 3 g = _; rw [hi 3 g (by omega) hg]; exact b3
  · show I' 4 g = _; rw [hi 4 g (by omega) hg]; exact b4
  · show J' 1 (4 * g + j) = _; rw [h1 _ (by omega)]; exact b6 j hj
theorem pm_e77 {post : Int32 → (Nat → Nat → Int32) → (Nat → Nat → Int64) → Int32 → Int64 → Int32 → Prop} (hn : n < 40) (ho : mNum (I 9) (J 7) o) (h : ∀ J', (∀ k, k ≠ 1 → J' k = J k) → (∀ a, a < 4 * n → J' 1 a = J 1 a) → (∀ j, j < o.2.2.length → J' 1 (4 * n + j) = o.2.2.getD j 0) → wMpastOf (fun r19 I_19 J_19 cn_19 cm_19 so_19 => (vp_in (nI n) 40 ∧ ∀ J20, J20 = mj_up J_19 2 (Int32.toNatClampNeg (nI n)) r19 → (wMdepthOf (fun r22 I_22 J_22 cn_22 cm_22 so_22 => (vp_in (nI n) 40 ∧ ∀ I23, I23 = mi_up I_22 5 (Int32.toNatClampNeg (nI n)) r22 → (post (nI n) I23 J_22 (cn_22 + 1) cm_22 so_22))) I_19 J20 cn_19 cm_19 so_19 ))) I J' cn cm so) : ∀ d k J', k + d = 4 → (∀ a, a ≠ 1 → J' a = J a) → (∀ a, a < 4 * n → J' 1 a = J 1 a) → (∀ j, j < k → j < o.2.2.length → J' 1 (4 * n + j) = o.2.2.getD j 0) → wMenter_77 post (d + 1) I J' cn cm so (nI n) (nI k) := by
  obtain ⟨-, -, -, -, h4, hl4, hL⟩ := ho
  intro d
  induction d with
  | zero =>
    intro k J' hk h1 h2 h3
    rw [wMenter_77_s, l4 (by omega)]
    exact ⟨fun _ => h J' h1 h2 (fun j hj => h3 j (by omega) hj), fun c => by omega⟩
  | succ d ih =>
    intro k J' hk h1 h2 h3
    rw [wMenter_77_s, l4 (by omega), t32_4, h4, n4]
    have go : ∀ t : Int64, (k < o.2.2.length → t = o.2.2.getD k 0) → wMenter_111 post (wMenter_77 post (d + 1)) I J' cn cm so (nI n) (nI k) t (nI (4 * n + k)) := by
      intro t ht
      unfold wMenter_111
      refine ⟨vp_in_nI (by omega) (by omega), fun J2 e2 => ?_⟩
      rw [tN (show 4 * n + k < 2 ^ 31 by omega)] at e2
      rw [nI_1]
      refine ih (k + 1) J2 (by omega) (fun a ha => by rw [e2, mj_n ha, h1 a ha]) (fun a ha => by rw [e2, mj_s, pk_uLn (by omega), h2 a ha]) (fun j hj hjl => ?_)
      rw [e2, mj_s]
      by_cases hjk : j = k
      · rw [hjk, pk_uLs]; rw [hjk] at hjl; exact ht hjl
      · rw [pk_uLn (by omega)]; exact h3 j (by omega) hjl
    refine ⟨fun c => by omega, fun _ => ⟨v45, fun c => go 0 (fun q => absurd c (nI_ge q (by omega))), fun c => ⟨vp_in_nI (by omega) (by omega), ?_⟩⟩⟩
    rw [tN (show k < 2 ^ 31 by omega)]
    exact go _ (fun q => by rw [h1 7 (by decide)]; exact hL k q)
theorem pm_enter {post : Int32 → (Nat → Nat → Int32) → (Nat → Nat → Int64) → Int32 → Int64 → Int32 → Prop} (hk : mKn K n I J cn) (hn : n < 40) (ho : mNum (I 9) (J 7) o) (hcm : cm = o.1) (hnew : ho_find K o.1 n = none) (hdep : (ho_cand K n o).2.1 ≤ 40) (hf : ∀ j, j < o.2.2.length → ∃ g, ho_find K (o.2.2.getD j 0) n = some g) (h : ∀ I' J', mKn (ho_put K n (ho_cand K n o)) (n + 1) I' J' (nI (n + 1)) → (∀ k, 6 ≤ k → I' k = I k) → (∀ k, 3 ≤ k → J' k = J k) → post (nI n) I' J' (nI (n + 1)) cm so) : wMenter post I J cn cm so := by
  have hc := hk.2.1
  subst hc
  have vn : vp_in (nI n) 40 := vp_in_nI hn (by omega)
  unfold wMenter
  rw [tN (show n < 2 ^ 31 by omega), t32_0, t32_1, t32_2, t32_3, t32_4]
  refine ⟨vn, fun J1 eJ => ⟨v05, vn, fun I4 e4 => ⟨v15, vn, fun I7 e7 => ⟨v25, vn, fun I10 e10 => ⟨v35, vn, fun I13 e13 => ⟨v45, vn, fun I16 e16 => ?_⟩⟩⟩⟩⟩⟩
  have hI9 : I16 9 = I 9 := by rw [e16, mi_n (by decide), e13, mi_n (by decide), e10, mi_n (by decide), e7, mi_n (by decide), e4, mi_n (by decide)]
  have hge : ∀ k, 5 ≤ k → I16 k = I k := fun k h5 => by rw [e16, mi_n (by omega), e13, mi_n (by omega), e10, mi_n (by omega), e7, mi_n (by omega), e4, mi_n (by omega)]
  have hlo : ∀ k g, g ≠ n → I16 k g = I k g := by
    intro k g hg
    rw [e16, mi_g hg, e13, mi_g hg, e10, mi_g hg, e7, mi_g hg, e4, mi_g hg]
  have hJ7 : J1 7 = J 7 := by rw [eJ, mj_n (by decide)]
  have ho1 : mNum (I16 9) (J1 7) o := by rw [hI9, hJ7]; exact ho
  have hk1 : mKn K n I16 J1 (nI n) := hk.ext (fun k g _ hg => hlo k g (by omega)) (fun g hg => by rw [eJ, mj_s, pk_uLn (by omega)]) (fun a _ => by rw [eJ, mj_n (by decide)]) (fun g _ => by rw [eJ, mj_n (by decide)])
  refine ⟨_, pm_e77 (J := J1) hn ho1 (fun J2 g1 g2 g3 => ?_) 4 0 J1 (by omega) (fun _ _ => rfl) (fun _ _ => rfl) (fun j hj => by omega)⟩
  have hk2 : mKn K n I16 J2 (nI n) := hk1.ext (fun _ _ _ _ => rfl) (fun g _ => by rw [g1 0 (by decide)]) g2 (fun g _ => by rw [g1 2 (by decide)])
  have ho2 : mNum (I16 9) (J2 7) o := by rw [g1 7 (by decide)]; exact ho1
  refine pm_pastOf hk2 ho2 hf ⟨vn, fun J3 e3 => ?_⟩
  rw [tN (show n < 2 ^ 31 by omega)] at e3
  have hk3 : mKn K n I16 J3 (nI n) := hk2.ext (fun _ _ _ _ => rfl) (fun g _ => by rw [e3, mj_n (by decide)]) (fun a _ => by rw [e3, mj_n (by decide)]) (fun g hg => by rw [e3, mj_s, pk_uLn (by omega)])
  have ho3 : mNum (I16 9) (J3 7) o := by rw [e3, mj_n (by decide)]; exact ho2
  refine pm_depthOf hk3 ho3 hf ⟨vn, fun I5 e5 => ?_⟩
  rw [tN (show n < 2 ^ 31 by omega)] at e5
  rw [nI_1]
  have hk5 : mKn K n I5 J3 (nI n) := hk3.ext (fun k g hk5 hg => by
    rw [e5]
    by_cases q : k = 5
    · rw [q, mi_s, pk_un (by omega)]
    · rw [mi_n q]) (fun _ _ => rfl) (fun _ _ => rfl) (fun _ _ => rfl)
  have hp : ∀ g, g < n → ho_put K n (ho_cand K n o) g = K g := fun g hg => by unfold ho_put; rw [if_neg (by omega)]
  have hpn : ho_put K n (ho_cand K n o) n = ho_cand K n o := by unfold ho_put; rw [if_pos rfl]
  obtain ⟨p0, p1, p2, p3, p4, p5, p6⟩ := ho
  refine h I5 J3 ⟨by omega, rfl, ?_, fun g hg => ?_⟩ (fun k hk6 => by rw [e5, mi_n (by omega), hge k (by omega)]) (fun k hk3 => by rw [e3, mj_n (by omega), g1 k (by omega), eJ, mj_n (by omega)])
  · intro i j hi hj e
    rcases Nat.lt_or_ge i n with zi | zi <;> rcases Nat.lt_or_ge j n with zj | zj
    · rw [hp i zi, hp j zj] at e
      exact hk.2.2.1 i j zi zj e
    · have ej : j = n := by omega
      rw [ej, hp i zi, hpn] at e
      exact absurd e (ho_find_none hnew i zi)
    · have ei : i = n := by omega
      rw [ei, hp j zj, hpn] at e
      exact absurd e.symm (ho_find_none hnew j zj)
    · omega
  · rcases Nat.lt_or_ge g n with z | z
    · rw [hp g z]
      exact hk5.2.2.2 g z
    · have eg : g = n := by omega
      rw [eg, hpn]
      have a0 : ∀ k, k ≠ 5 → I5 k = I16 k := fun k q => by rw [e5, mi_n q]
      refine ⟨?_, ⟨?_, ?_, ?_, ?_, ?_, p5, fun j hj => ?_⟩, ?_, ?_, hdep⟩
      · rw [e3, mj_n (by decide), g1 0 (by decide), eJ, mj_s, pk_uLs, hcm]; rfl
      · show I5 0 n = _
        rw [a0 0 (by decide), e16, mi_n (by decide), e13, mi_n (by decide), e10, mi_n (by decide), e7, mi_n (by decide), e4, mi_s, pk_us]; exact p0
      · show I5 1 n = _
        rw [a0 1 (by decide), e16, mi_n (by decide), e13, mi_n (by decide), e10, mi_n (by decide), e7, mi_s, pk_us, e4, mi_n (by decide)]; exact p1
      · show I5 2 n = _
        rw [a0 2 (by decide), e16, mi_n (by decide), e13, mi_n (by decide), e10, mi_s, pk_us, e7, mi_n (by decide), e4, mi_n (by decide)]; exact p2
      · show I5 3 n = _
        rw [a0 3 (by decide), e16, mi_n (by decide), e13, mi_s, pk_us, e10, mi_n (by decide), e7, mi_n (by decide), e4, mi_n (by decide)]; exact p3
      · show I5 4 n = _
        rw [a0 4 (by decide), e16, mi_s, pk_us, e13, mi_n (by decide), e10, mi_n (by decide), e7, mi_n (by decide), e4, mi_n (by decide)]; exact p4
      · show J3 1 (4 * n + j) = _
        rw [e3, mj_n (by decide)]
        exact g3 j hj
      · rw [e3, mj_s, pk_uLs]
      · rw [e5, mi_s, pk_us]
end MP5
