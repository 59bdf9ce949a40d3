/-! the reference: is it right -/
theorem ho_cd_ls {K : Nat → ho_M} {n : Nat} {ls : List Int64} (hn : n ≤ 64) {i : Nat} : ∀ j, hb (ho_cd K n ls j).2.1 i = true ↔ ∃ a, a < j ∧ ho_find K (ls.getD a 0) n = some i := by
  intro j
  induction j with
  | zero =>
    rw [show (ho_cd K n ls 0).2.1 = 0 from rfl, hb_0]
    exact ⟨fun h => (by cases h), fun ⟨a, h, _⟩ => by omega⟩
  | succ j ih =>
    rw [ho_cd]
    cases hf : ho_find K (ls.getD j 0) n with
    | none =>
      refine ih.trans ⟨fun ⟨a, h1, h2⟩ => ⟨a, by omega, h2⟩, fun ⟨a, h1, h2⟩ => ⟨a, ?_, h2⟩⟩
      rcases Nat.lt_or_ge a j with q | q
      · exact q
      · have e : a = j := by omega
        rw [e, hf] at h2
        cases h2
    | some g =>
      show hb ((ho_cd K n ls j).2.1 ||| ho_bit g) i = true ↔ _
      have hg := (ho_find_some hf).1
      rw [hb_or, Bool.or_eq_true, ih, ho_bit_hb (by omega), decide_eq_true_eq]
      constructor
      · rintro (⟨a, h1, h2⟩ | rfl)
        · exact ⟨a, by omega, h2⟩
        · exact ⟨j, by omega, hf⟩
      · rintro ⟨a, h1, h2⟩
        rcases Nat.lt_or_ge a j with q | q
        · exact Or.inl ⟨a, q, h2⟩
        · have e : a = j := by omega
          rw [e, hf] at h2
          exact Or.inr (Option.some.inj h2)
theorem ho_cd_ps {K : Nat → ho_M} {n : Nat} {ls : List Int64} {i : Nat} : ∀ j, hb (ho_cd K n ls j).2.2 i = true ↔ ∃ a g, a < j ∧ ho_find K (ls.getD a 0) n = some g ∧ hb (K g).2.2.2 i = true := by
  intro j
  induction j with
  | zero =>
    rw [show (ho_cd K n ls 0).2.2 = 0 from rfl, hb_0]
    exact ⟨fun h => (by cases h), fun ⟨a, g, h, _⟩ => by omega⟩
  | succ j ih =>
    rw [ho_cd]
    cases hf : ho_find K (ls.getD j 0) n with
    | none =>
      refine ih.trans ⟨fun ⟨a, g, h1, h2⟩ => ⟨a, g, by omega, h2⟩, fun ⟨a, g, h1, h2⟩ => ⟨a, g, ?_, h2⟩⟩
      rcases Nat.lt_or_ge a j with q | q
      · exact q
      · have e : a = j := by omega
        rw [e, hf] at h2
        cases h2.1
    | some g =>
      show hb ((ho_cd K n ls j).2.2 ||| (K g).2.2.2) i = true ↔ _
      rw [hb_or, Bool.or_eq_true, ih]
      constructor
      · rintro (⟨a, g', h1, h2⟩ | h)
        · exact ⟨a, g', by omega, h2⟩
        · exact ⟨j, g, by omega, hf, h⟩
      · rintro ⟨a, g', h1, h2, h3⟩
        rcases Nat.lt_or_ge a j with q | q
        · exact Or.inl ⟨a, g', q, h2, h3⟩
        · have e : a = j := by omega
          rw [e, hf] at h2
          cases h2
          exact Or.inr h3
/-- no link of the first k is in the past of a link -/
def ho_pk (K : Nat → ho_M) (n : Nat) (ls : List Int64) (k : Nat) : Prop := ∀ a, a < k → ∀ x, ho_find K (ls.getD a 0) n = some x → ∀ i, i < ls.length → ∀ g, ho_find K (ls.getD i 0) n = some g → hb (K g).2.2.2 x = false
def ho_cond (K : Nat → ho_M) (set : Int64) (o : ho_O) (g i : Nat) : Prop := hb set i = true ∧ (K i).1.2.1.2.1 = 3 ∧ (K i).1.2.1.2.2.1 = o.2.1.2.2.1 ∧ (K i).1.2.1.1 = (K g).1.2.1.1 ∧ hb (K i).2.2.2 g = true
theorem ho_right_iff {K : Nat → ho_M} {n : Nat} {o : ho_O} (hn : n ≤ 40) : ho_right K n (ho_cand K n o) ↔ ho_pk K n o.2.2 o.2.2.length ∧ ∀ g, g < n → ¬ ho_lock K g (ho_cand K n o) ∨ ∃ i, i < n ∧ ho_cond K (ho_cand K n o).2.2.2 o g i := by
  have hls : ∀ i, hb (ho_cand K n o).2.2.1 i = true ↔ ∃ a, a < o.2.2.length ∧ ho_find K (o.2.2.getD a 0) n = some i := fun i => ho_cd_ls (by omega) _
  constructor
  · intro h
    refine ⟨fun a ha x hx i hi g hg => ?_, fun g hg => ?_⟩
    · cases hv : hb (K g).2.2.2 x with
      | false => rfl
      | true =>
        have h1 := (h g (ho_find_some hg).1).1
        exfalso
        refine h1 ⟨(hls g).mpr ⟨i, hi, hg⟩, hb_ne0.mpr ⟨x, ?_, ?_⟩⟩
        · have := (ho_find_some hx).1
          omega
        · rw [hb_and, hv, (hls x).mpr ⟨a, ha, hx⟩]
          rfl
    · by_cases hl : ho_lock K g (ho_cand K n o)
      · right
        have h1 := (h g hg).2
        obtain ⟨i, hi, h2, h3, h4, h5, h6⟩ := Classical.byContradiction (fun q => h1 ⟨hl, q⟩)
        exact ⟨i, hi, h2, h3, h4.trans hl.2.2.1, h5, h6⟩
      · exact Or.inl hl
  · rintro ⟨h1, h2⟩ g hg
    constructor
    · rintro ⟨h3, h4⟩
      obtain ⟨i, hi, hgi⟩ := (hls g).mp h3
      obtain ⟨x, hx, h5⟩ := hb_ne0.mp h4
      rw [hb_and, Bool.and_eq_true] at h5
      obtain ⟨a, ha, hxa⟩ := (hls x).mp h5.2
      rw [h1 a ha x hxa i hi g hgi] at h5
      exact absurd h5.1 (by decide)
    · rintro ⟨h3, h4⟩
      rcases h2 g hg with h5 | ⟨i, hi, h5, h6, h7, h8, h9⟩
      · exact h5 h3
      · exact h4 ⟨i, hi, h5, h6, h7.trans h3.2.2.1.symm, h8, h9⟩
section MP4
variable {I : Nat → Nat → Int32} {J : Nat → Nat → Int64} {cn : Int32} {cm : Int64} {so : Int32} {K : Nat → ho_M} {n : Nat} {o : ho_O}
theorem pm_r37 {post : Int32 → (Nat → Nat → Int32) → (Nat → Nat → Int64) → Int32 → Int64 → Int32 → Prop} {K10 : (Nat → Nat → Int32) → (Nat → Nat → Int64) → Int32 → Int64 → Int32 → Int64 → Int32 → Int32 → Prop} {set : Int64} {k x : Nat} (A : Prop) (hk : mKn K n I J cn) (hx : x < 64) (ho : mNum (I 9) (J 7) o) (hf : ∀ j, j < o.2.2.length → ∃ g, ho_find K (o.2.2.getD j 0) n = some g) (h : K10 I J cn cm so set (bI (A ∧ ∀ i, i < o.2.2.length → ∀ g, ho_find K (o.2.2.getD i 0) n = some g → hb (K g).2.2.2 x = false)) (nI k + 1)) : ∀ d j, j + d = o.2.2.length → wMisRight_37 post K10 (d + 1) I J cn cm so set (bI (A ∧ ∀ i, i < j → ∀ g, ho_find K (o.2.2.getD i 0) n = some g → hb (K g).2.2.2 x = false)) (nI k) (nI x) (nI j) := by
  obtain ⟨-, -, -, -, h4, hl4, hL⟩ := ho
  intro d
  induction d with
  | zero =>
    intro j hj
    have e : j = o.2.2.length := by omega
    subst e
    rw [wMisRight_37_s, t32_4, h4]
    exact ⟨v45, fun _ => h, fun c => absurd (nI_le (Nat.le_refl _) (by omega)) c⟩
  | succ d ih =>
    intro j hj
    have := ih (j + 1) (by omega)
    rw [wMisRight_37_s, t32_4, h4]
    refine ⟨v45, fun c => absurd c (nI_ge (by omega) (by omega)), fun _ => bI_br (fun hn => ?_) (fun hy => ⟨vp_in_nI (by omega) (by omega), ?_⟩)⟩
    · rw [bI_f (fun q => hn ⟨q.1, fun i hi => q.2 i (by omega)⟩)] at this
      rw [nI_1 j]
      exact this
    · rw [tN (show j < 2 ^ 31 by omega), hL j (by omega), nI_1 j]
      refine pm_findK hk ?_
      obtain ⟨g, hg⟩ := hf j (by omega)
      have hgn := (ho_find_some hg).1
      have hn := hk.1
      rw [hg, show mIx (some g) = nI g from rfl]
      refine ⟨vp_in_nI (by omega) (by omega), pm_in1 hx ?_⟩
      rw [tN (show g < 2 ^ 31 by omega), (hk.2.2.2 g hgn).2.2.1]
      refine bI_nr (fun q => ?_) (fun q => ?_)
      · rw [bI_f (fun z => by rw [z.2 j (by omega) g hg] at q; cases q)] at this
        exact this
      · rw [bI_t ⟨hy.1, fun i hi g' hg' => by
          rcases Nat.lt_or_ge i j with z | z
          · exact hy.2 i z g' hg'
          · have e : i = j := by omega
            subst e
            rw [hg] at hg'
            cases hg'
            simpa using q⟩] at this
        exact this
theorem pm_r10 {post : Int32 → (Nat → Nat → Int32) → (Nat → Nat → Int64) → Int32 → Int64 → Int32 → Prop} {set : Int64} (hk : mKn K n I J cn) (ho : mNum (I 9) (J 7) o) (hf : ∀ j, j < o.2.2.length → ∃ g, ho_find K (o.2.2.getD j 0) n = some g) (h : ∃ k, wMisRight_97 post k I J cn cm so set (bI (ho_pk K n o.2.2 o.2.2.length)) 0) : ∀ d k, k + d = o.2.2.length → wMisRight_10 post (d + 1) I J cn cm so set (bI (ho_pk K n o.2.2 k)) (nI k) := by
  have ho' := ho
  obtain ⟨-, -, -, -, h4, hl4, hL⟩ := ho
  intro d
  induction d with
  | zero =>
    intro k hj
    have e : k = o.2.2.length := by omega
    subst e
    rw [wMisRight_10_s, t32_4, h4]
    exact ⟨v45, fun _ => h, fun c => absurd (nI_le (Nat.le_refl _) (by omega)) c⟩
  | succ d ih =>
    intro k hj
    have := ih (k + 1) (by omega)
    rw [wMisRight_10_s, t32_4, h4]
    refine ⟨v45, fun c => absurd c (nI_ge (by omega) (by omega)), fun _ => ⟨vp_in_nI (by omega) (by omega), ?_⟩⟩
    rw [tN (show k < 2 ^ 31 by omega), hL k (by omega)]
    refine pm_findK hk ?_
    obtain ⟨x, hx⟩ := hf k (by omega)
    have hxn := (ho_find_some hx).1
    have hn := hk.1
    rw [hx, show mIx (some x) = nI x from rfl]
    have e1 : bI (ho_pk K n o.2.2 (k + 1)) = bI (ho_pk K n o.2.2 k ∧ ∀ i, i < o.2.2.length → ∀ g, ho_find K (o.2.2.getD i 0) n = some g → hb (K g).2.2.2 x = false) := by
      refine bI_ext ⟨fun q => ⟨fun a ha => q a (by omega), fun i hi g hg => q k (by omega) x hx i hi g hg⟩, fun q a ha y hy i hi g hg => ?_⟩
      rcases Nat.lt_or_ge a k with z | z
      · exact q.1 a z y hy i hi g hg
      · have e : a = k := by omega
        rw [e, hx] at hy
        cases hy
        exact q.2 i hi g hg
    rw [e1, ← nI_1] at this
    have h37 := pm_r37 (post := post) (K10 := wMisRight_10 post (d + 1)) (set := set) (k := k) (cm := cm) (so := so) (ho_pk K n o.2.2 k) hk (show x < 64 by omega) ho' hf this o.2.2.length 0 (by omega)
    rw [bI_ext (show (ho_pk K n o.2.2 k ∧ ∀ i, i < 0 → ∀ g, ho_find K (o.2.2.getD i 0) n = some g → hb (K g).2.2.2 x = false) ↔ ho_pk K n o.2.2 k from ⟨fun q => q.1, fun q => ⟨q, fun i hi => by omega⟩⟩)] at h37
    exact ⟨_, h37⟩
theorem pm_r271 {post : Int32 → (Nat → Nat → Int32) → (Nat → Nat → Int64) → Int32 → Int64 → Int32 → Prop} {K97 : (Nat → Nat → Int32) → (Nat → Nat → Int64) → Int32 → Int64 → Int32 → Int64 → Int32 → Int32 → Prop} {set : Int64} {v4 : Int32} (A Lk Fr : Prop) (h : K97 I J cn cm so set (bI (A ∧ (¬ Lk ∨ Fr))) (v4 + 1)) : wMisRight_271 post K97 I J cn cm so set (bI A) v4 (bI Lk) (bI Fr) := by
  unfold wMisRight_271
  refine bI_br (fun hA => ?_) (fun hA => bI_br (fun hL => ?_) (fun hL => bI_br (fun hF => ?_) (fun hF => ?_)))
  · rw [bI_f (fun q => hA q.1)] at h; exact h
  · rw [bI_t ⟨hA, Or.inl hL⟩] at h; exact h
  · rw [bI_f (fun q => q.2.elim (fun z => z hL) hF)] at h; exact h
  · rw [bI_t ⟨hA, Or.inr hF⟩] at h; exact h
theorem pm_r171 {post : Int32 → (Nat → Nat → Int32) → (Nat → Nat → Int64) → Int32 → Int64 → Int32 → Prop} {K97 : (Nat → Nat → Int32) → (Nat → Nat → Int64) → Int32 → Int64 → Int32 → Int64 → Int32 → Int32 → Prop} {set : Int64} {g : Nat} (A : Prop) (hk : mKn K n I J cn) (hg : g < n) (ho : mNum (I 9) (J 7) o) (h : K97 I J cn cm so set (bI (A ∧ ∃ i, i < n ∧ ho_cond K set o g i)) (nI g + 1)) : ∀ d f, f + d = n → wMisRight_171 post K97 (d + 1) I J cn cm so set (bI A) (nI g) 1 (bI (∃ i, i < f ∧ ho_cond K set o g i)) (nI f) := by
  have hn := hk.1
  have hc := hk.2.1
  obtain ⟨m0, m1, m2, m3, m4, m5, m6⟩ := ho
  obtain ⟨-, ⟨g0, -⟩, -⟩ := hk.2.2.2 g hg
  intro d
  induction d with
  | zero =>
    intro f hf
    have e : f = n := by omega
    subst e
    rw [wMisRight_171_s]
    refine ⟨fun _ => ?_, fun c => absurd (by rw [hc]; exact nI_le (Nat.le_refl _) (by omega)) c⟩
    have := pm_r271 (post := post) (K97 := K97) (I := I) (J := J) (cn := cn) (cm := cm) (so := so) (set := set) (v4 := nI g) A True (∃ i, i < f ∧ ho_cond K set o g i) (by
      rw [bI_ext (show (A ∧ (¬ True ∨ ∃ i, i < f ∧ ho_cond K set o g i)) ↔ (A ∧ ∃ i, i < f ∧ ho_cond K set o g i) from ⟨fun q => ⟨q.1, q.2.elim (fun z => absurd trivial z) id⟩, fun q => ⟨q.1, Or.inr q.2⟩⟩)]
      exact h)
    rw [bI_t trivial] at this
    exact this
  | succ d ih =>
    intro f hf
    have hfn : f < n := by omega
    have nx := ih (f + 1) (by omega)
    have vf : vp_in (nI f) 40 := vp_in_nI (by omega) (by omega)
    have vg : vp_in (nI g) 40 := vp_in_nI (by omega) (by omega)
    obtain ⟨-, ⟨f0, f1, f2, -⟩, f3, -⟩ := hk.2.2.2 f hfn
    have no : ¬ (∃ i, i < f ∧ ho_cond K set o g i) → ¬ ho_cond K set o g f → wMisRight_171 post K97 (d + 1) I J cn cm so set (bI A) (nI g) 1 0 (nI f + 1) := by
      intro h1 h2
      rw [bI_f (P := ∃ i, i < f + 1 ∧ ho_cond K set o g i) (by
        rintro ⟨i, hi, hi2⟩
        rcases Nat.lt_or_ge i f with z | z
        · exact h1 ⟨i, z, hi2⟩
        · have e : i = f := by omega
          rw [e] at hi2
          exact h2 hi2)] at nx
      rw [nI_1 f]
      exact nx
    rw [wMisRight_171_s]
    refine ⟨fun c => absurd (by rw [hc] at c; exact c) (nI_ge hfn (by omega)), fun _ => ⟨fun c => absurd c (by decide), fun _ => bI_nr (fun hy => ?_) (fun hno => pm_in1 (by omega) (bI_br (fun q => no hno (fun z => q z.1)) (fun q1 => ?_)))⟩⟩
    · obtain ⟨i, hi, hi2⟩ := hy
      rw [bI_t (P := ∃ i, i < f + 1 ∧ ho_cond K set o g i) ⟨i, by omega, hi2⟩] at nx
      rw [nI_1 f]
      exact nx
    · rw [tN (show f < 2 ^ 31 by omega), tN (show g < 2 ^ 31 by omega), t32_2, m2]
      have f0' : I 0 f = (K f).1.2.1.1 := f0
      have f1' : I 1 f = (K f).1.2.1.2.1 := f1
      have f2' : I 2 f = (K f).1.2.1.2.2.1 := f2
      have g0' : I 0 g = (K g).1.2.1.1 := g0
      rw [f0', f1', f2', g0', f3]
      refine ⟨vf, fun c => no hno (fun z => c z.2.1), fun q2 => ⟨vf, v25, fun c => no hno (fun z => c z.2.2.1), fun q3 => ⟨vf, vg, fun c => no hno (fun z => c z.2.2.2.1), fun q4 => ⟨vf, pm_in1 (by omega) (bI_br (fun c => no hno (fun z => c z.2.2.2.2)) (fun q5 => ?_))⟩⟩⟩⟩
      rw [bI_t (P := ∃ i, i < f + 1 ∧ ho_cond K set o g i) ⟨f, by omega, q1, q2, q3, q4, q5⟩] at nx
      rw [nI_1 f]
      exact nx
end MP4
