/-! numbers and links as the reference holds them; what it asks of an operation that comes -/
theorem t32_0 : Int32.toNatClampNeg 0 = 0 := by decide
theorem t32_1 : Int32.toNatClampNeg 1 = 1 := by decide
theorem t32_2 : Int32.toNatClampNeg 2 = 2 := by decide
theorem t32_3 : Int32.toNatClampNeg 3 = 3 := by decide
theorem t32_4 : Int32.toNatClampNeg 4 = 4 := by decide
theorem v05 : vp_in 0 5 := by unfold vp_in; decide
theorem v15 : vp_in 1 5 := by unfold vp_in; decide
theorem v25 : vp_in 2 5 := by unfold vp_in; decide
theorem v35 : vp_in 3 5 := by unfold vp_in; decide
theorem v45 : vp_in 4 5 := by unfold vp_in; decide
theorem tN {k : Nat} (h : k < 2 ^ 31) : Int32.toNatClampNeg (nI k) = k := nI_clamp h
/-- the numbers N and the links L are those of o -/
def mNum (N : Nat → Int32) (L : Nat → Int64) (o : ho_O) : Prop := N 0 = o.2.1.1 ∧ N 1 = o.2.1.2.1 ∧ N 2 = o.2.1.2.2.1 ∧ N 3 = o.2.1.2.2.2 ∧ N 4 = nI o.2.2.length ∧ o.2.2.length ≤ 4 ∧ ∀ j, j < o.2.2.length → L j = o.2.2.getD j 0
/-- the known ones -/
def mKn (K : Nat → ho_M) (n : Nat) (I : Nat → Nat → Int32) (J : Nat → Nat → Int64) (cn : Int32) : Prop := n ≤ 40 ∧ cn = nI n ∧ ho_dis K n ∧ ∀ g, g < n → J 0 g = (K g).1.1 ∧ mNum (fun k => I k g) (fun j => J 1 (4 * g + j)) (K g).1 ∧ J 2 g = (K g).2.2.2 ∧ I 5 g = nI (K g).2.1 ∧ (K g).2.1 ≤ 40
theorem ho_has_iff {K : Nat → ho_M} {n : Nat} {hd x : Int64} : ho_has K n hd x = true ↔ ∃ g, ho_find K x n = some g ∧ hb hd g = true := by
  unfold ho_has
  cases h : ho_find K x n with
  | none => simp
  | some g => simp
def ho_h5 (N : Nat → Int32) : Nat → Int64
  | 0 => 6148914691236517205
  | k + 1 => ho_take (ho_h5 N k) (N k).toInt64
/-- the hash of an operation's numbers and links -/
def ho_hashO (q : Int32 × Int32 × Int32 × Int32) (ls : List Int64) : Int64 := ho_hl (ho_take (ho_take (ho_take (ho_take (ho_take 6148914691236517205 q.1.toInt64) q.2.1.toInt64) q.2.2.1.toInt64) q.2.2.2.toInt64) (nI ls.length).toInt64) (fun j => ls.getD j 0) ls.length
theorem ho_hl_ext {h : Int64} {L L' : Nat → Int64} : ∀ {n : Nat}, (∀ j, j < n → L j = L' j) → ho_hl h L n = ho_hl h L' n
  | 0, _ => rfl
  | n + 1, e => by rw [ho_hl, ho_hl, ho_hl_ext (n := n) (fun j hj => e j (by omega)), e n (by omega)]
theorem mNum_hash {N : Nat → Int32} {L : Nat → Int64} {o : ho_O} (h : mNum N L o) : ho_hl (ho_h5 N 5) L o.2.2.length = ho_hashO o.2.1 o.2.2 := by
  obtain ⟨h0, h1, h2, h3, h4, -, h5⟩ := h
  unfold ho_hashO
  rw [ho_hl_ext h5]
  simp only [ho_h5, h0, h1, h2, h3, h4]
section MP2
variable {I : Nat → Nat → Int32} {J : Nat → Nat → Int64} {cn : Int32} {cm : Int64} {so : Int32} {K : Nat → ho_M} {n : Nat} {o : ho_O}
theorem pm_findK {post : Int32 → (Nat → Nat → Int32) → (Nat → Nat → Int64) → Int32 → Int64 → Int32 → Prop} {x : Int64} (hk : mKn K n I J cn) (h : post (mIx (ho_find K x n)) I J cn cm so) : wMfind post I J cn cm so x := pm_find hk.1 hk.2.1 (fun g hg => (hk.2.2.2 g hg).1) hk.2.2.1 h
theorem pm_lh_loop {post : Int32 → (Nat → Nat → Int32) → (Nat → Nat → Int64) → Int32 → Int64 → Int32 → Prop} {r : Nat} (hk : mKn K n I J cn) (hr : r < 4) (ho : mNum (I 9) (J 7) o) (h : post (bI (ho_lh K n (J 3 r) o.2.2)) I J cn cm so) : ∀ d j, j + d = o.2.2.length → wMlinksHeld_4 post (d + 1) I J cn cm so (nI r) (bI (∀ i, i < j → ho_has K n (J 3 r) (o.2.2.getD i 0) = true)) (nI j) := by
  obtain ⟨-, -, -, -, h4, hl4, hL⟩ := ho
  intro d
  induction d with
  | zero =>
    intro j hj
    have e : j = o.2.2.length := by omega
    subst e
    rw [wMlinksHeld_4_s, t32_4, h4]
    exact ⟨v45, fun _ => ⟨bI_nar _, h⟩, fun c => absurd (nI_le (Nat.le_refl _) (by omega)) c⟩
  | succ d ih =>
    intro j hj
    rw [wMlinksHeld_4_s, t32_4, h4]
    refine ⟨v45, fun c => absurd c (nI_ge (by omega) (by omega)), fun _ => bI_br (fun hn => ?_) (fun hy => ⟨vp_in_nI hr (by omega), vp_in_nI (by omega) (by omega), ?_⟩)⟩
    · have := ih (j + 1) (by omega)
      rw [bI_f (fun q => hn (fun i hi => q i (by omega)))] at this
      rw [nI_1]
      exact this
    · rw [tN (show r < 2 ^ 31 by omega), tN (show j < 2 ^ 31 by omega), hL j (by omega), nI_1]
      refine pm_findK hk (pm_in (fun g e => ?_) ?_)
      · have := (ho_find_some e).1
        have := hk.1
        omega
      · have := ih (j + 1) (by omega)
        refine bI_br (fun hn => ?_) (fun hx => ?_)
        · rw [bI_f (fun q => hn (ho_has_iff.mp (q j (by omega))))] at this
          exact this
        · rw [bI_t (fun i hi => by
            rcases Nat.lt_or_ge i j with q | q
            · exact hy i q
            · have e : i = j := by omega
              subst e
              exact ho_has_iff.mpr hx)] at this
          exact this
theorem pm_linksHeld {post : Int32 → (Nat → Nat → Int32) → (Nat → Nat → Int64) → Int32 → Int64 → Int32 → Prop} {r : Nat} (hk : mKn K n I J cn) (hr : r < 4) (ho : mNum (I 9) (J 7) o) (h : post (bI (ho_lh K n (J 3 r) o.2.2)) I J cn cm so) : wMlinksHeld post I J cn cm so (nI r) := by
  have := pm_lh_loop hk hr ho h o.2.2.length 0 (by omega)
  rw [bI_t (fun i hi => by omega)] at this
  exact ⟨_, this⟩
theorem or4 (a b c d : Int64) : ((a ||| b) ||| c) ||| d = (a ||| d) ||| (b ||| c) := by
  apply hb_ext
  intro i _
  simp only [hb_or]
  cases hb a i <;> cases hb b i <;> cases hb c i <;> cases hb d i <;> rfl
theorem or00 : (0 : Int64) ||| 0 = 0 := by decide
theorem pm_past_loop {post : Int64 → (Nat → Nat → Int32) → (Nat → Nat → Int64) → Int32 → Int64 → Int32 → Prop} (hk : mKn K n I J cn) (ho : mNum (I 9) (J 7) o) (hf : ∀ j, j < o.2.2.length → ∃ g, ho_find K (o.2.2.getD j 0) n = some g) (h : post (ho_cand K n o).2.2.2 I J cn cm so) : ∀ d j, j + d = o.2.2.length → wMpastOf_4 post (d + 1) I J cn cm so ((ho_cd K n o.2.2 j).2.1 ||| (ho_cd K n o.2.2 j).2.2) (nI j) := by
  obtain ⟨-, -, -, -, h4, hl4, hL⟩ := ho
  intro d
  induction d with
  | zero =>
    intro j hj
    have e : j = o.2.2.length := by omega
    subst e
    rw [wMpastOf_4_s, t32_4, h4]
    exact ⟨v45, fun _ => h, fun c => absurd (nI_le (Nat.le_refl _) (by omega)) c⟩
  | succ d ih =>
    intro j hj
    rw [wMpastOf_4_s, t32_4, h4]
    refine ⟨v45, fun c => absurd c (nI_ge (by omega) (by omega)), fun _ => ⟨vp_in_nI (by omega) (by omega), ?_⟩⟩
    rw [tN (show j < 2 ^ 31 by omega), hL j (by omega), nI_1]
    refine pm_findK hk ?_
    obtain ⟨g, hg⟩ := hf j (by omega)
    have hgn := (ho_find_some hg).1
    have hn := hk.1
    rw [hg, show mIx (some g) = nI g from rfl]
    refine ⟨vp_in_nI (by omega) (by omega), fun x ex => ?_⟩
    have := ih (j + 1) (by omega)
    have e2 : ho_cd K n o.2.2 (j + 1) = (max (ho_cd K n o.2.2 j).1 ((K g).2.1 + 1), (ho_cd K n o.2.2 j).2.1 ||| ho_bit g, (ho_cd K n o.2.2 j).2.2 ||| (K g).2.2.2) := by rw [ho_cd, hg]
    rw [e2] at this
    rw [ex, tN (show g < 2 ^ 31 by omega), (hk.2.2.2 g hgn).2.2.1]
    show wMpastOf_4 post (d + 1) I J cn cm so ((((ho_cd K n o.2.2 j).2.1 ||| (ho_cd K n o.2.2 j).2.2) ||| (K g).2.2.2) ||| ho_bit g) (nI (j + 1))
    rw [or4]
    exact this
theorem pm_pastOf {post : Int64 → (Nat → Nat → Int32) → (Nat → Nat → Int64) → Int32 → Int64 → Int32 → Prop} (hk : mKn K n I J cn) (ho : mNum (I 9) (J 7) o) (hf : ∀ j, j < o.2.2.length → ∃ g, ho_find K (o.2.2.getD j 0) n = some g) (h : post (ho_cand K n o).2.2.2 I J cn cm so) : wMpastOf post I J cn cm so := by
  have := pm_past_loop hk ho hf h o.2.2.length 0 (by omega)
  rw [show (ho_cd K n o.2.2 0) = (1, 0, 0) from rfl, or00] at this
  exact ⟨_, this⟩
theorem ho_cd_pos : ∀ j, 1 ≤ (ho_cd K n o.2.2 j).1 ∧ ((∀ g, g < n → (K g).2.1 ≤ 40) → (ho_cd K n o.2.2 j).1 ≤ 41) := by
  intro j
  induction j with
  | zero => exact ⟨Nat.le_refl _, fun _ => show 1 ≤ 41 by omega⟩
  | succ j ih =>
    rw [ho_cd]
    cases hf : ho_find K (o.2.2.getD j 0) n with
    | none => exact ih
    | some g =>
      refine ⟨Nat.le_trans ih.1 (Nat.le_max_left _ _), fun h => ?_⟩
      have h1 := ih.2 h
      have h2 := h g (ho_find_some hf).1
      exact Nat.max_le.mpr ⟨h1, by omega⟩
theorem pm_depth_loop {post : Int32 → (Nat → Nat → Int32) → (Nat → Nat → Int64) → Int32 → Int64 → Int32 → Prop} (hk : mKn K n I J cn) (ho : mNum (I 9) (J 7) o) (hf : ∀ j, j < o.2.2.length → ∃ g, ho_find K (o.2.2.getD j 0) n = some g) (h : post (nI (ho_cand K n o).2.1) I J cn cm so) : ∀ d j, j + d = o.2.2.length → wMdepthOf_4 post (d + 1) I J cn cm so (nI ((ho_cd K n o.2.2 j).1 - 1)) (nI j) := by
  obtain ⟨-, -, -, -, h4, hl4, hL⟩ := ho
  have hb41 : ∀ j, 1 ≤ (ho_cd K n o.2.2 j).1 ∧ (ho_cd K n o.2.2 j).1 ≤ 41 := fun j => ⟨(ho_cd_pos j).1, (ho_cd_pos j).2 (fun g hg => (hk.2.2.2 g hg).2.2.2.2)⟩
  intro d
  induction d with
  | zero =>
    intro j hj
    have e : j = o.2.2.length := by omega
    subst e
    rw [wMdepthOf_4_s, t32_4, h4, nI_1, Nat.sub_add_cancel (hb41 _).1]
    exact ⟨v45, fun _ => h, fun c => absurd (nI_le (Nat.le_refl _) (by omega)) c⟩
  | succ d ih =>
    intro j hj
    rw [wMdepthOf_4_s, t32_4, h4]
    refine ⟨v45, fun c => absurd c (nI_ge (by omega) (by omega)), fun _ => ⟨vp_in_nI (by omega) (by omega), ?_⟩⟩
    rw [tN (show j < 2 ^ 31 by omega), hL j (by omega), nI_1]
    refine pm_findK hk ?_
    obtain ⟨g, hg⟩ := hf j (by omega)
    have hgn := (ho_find_some hg).1
    have hn := hk.1
    rw [hg, show mIx (some g) = nI g from rfl]
    have h5 := (hk.2.2.2 g hgn).2.2.2
    refine ⟨vp_in_nI (by omega) (by omega), ?_⟩
    have := ih (j + 1) (by omega)
    have e2 : (ho_cd K n o.2.2 (j + 1)).1 = max (ho_cd K n o.2.2 j).1 ((K g).2.1 + 1) := by rw [ho_cd, hg]
    rw [e2] at this
    show (I 5 (Int32.toNatClampNeg (nI g)) ≤ _ → _) ∧ (¬ I 5 (Int32.toNatClampNeg (nI g)) ≤ _ → vp_in (nI g) 40 ∧ wMdepthOf_4 post (d + 1) I J cn cm so (I 5 (Int32.toNatClampNeg (nI g))) (nI (j + 1)))
    rw [tN (show g < 2 ^ 31 by omega), h5.1, nI_leI (by omega) (by have := hb41 j; omega)]
    have hj1 := hb41 j
    refine ⟨fun c => ?_, fun c => ⟨vp_in_nI (by omega) (by omega), ?_⟩⟩
    · rw [Nat.max_eq_left (by omega)] at this
      exact this
    · rw [Nat.max_eq_right (by omega), Nat.add_sub_cancel] at this
      exact this
theorem pm_depthOf {post : Int32 → (Nat → Nat → Int32) → (Nat → Nat → Int64) → Int32 → Int64 → Int32 → Prop} (hk : mKn K n I J cn) (ho : mNum (I 9) (J 7) o) (hf : ∀ j, j < o.2.2.length → ∃ g, ho_find K (o.2.2.getD j 0) n = some g) (h : post (nI (ho_cand K n o).2.1) I J cn cm so) : wMdepthOf post I J cn cm so := ⟨_, pm_depth_loop hk ho hf h o.2.2.length 0 (by omega)⟩
end MP2
