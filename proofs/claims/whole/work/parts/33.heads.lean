/-! the reference: heads, links of a set, size of a set -/
def ho_cnt (x : Int64) : Nat → Nat
  | 0 => 0
  | k + 1 => ho_cnt x k + (if hb x k = true then 1 else 0)
theorem ho_cnt_le (x : Int64) : ∀ k, ho_cnt x k ≤ k
  | 0 => Nat.le_refl _
  | k + 1 => by
    rw [ho_cnt]
    have := ho_cnt_le x k
    split <;> omega
theorem ho_cnt_rng (x : Int64) : ∀ k, ((List.range k).filter (hb x)).length = ho_cnt x k
  | 0 => rfl
  | k + 1 => by
    rw [List.range_succ, List.filter_append, List.length_append, ho_cnt_rng x k, ho_cnt]
    by_cases h : hb x k = true
    · simp [h]
    · simp [h]
theorem ho_cnt_len {x : Int64} {k : Nat} {L : List Nat} (hn : L.Nodup) (h : ∀ g, g ∈ L ↔ g < k ∧ hb x g = true) : L.length = ho_cnt x k := by
  rw [← ho_cnt_rng]
  refine List.Perm.length_eq ((List.perm_ext_iff_of_nodup hn (List.Nodup.sublist List.filter_sublist List.nodup_range)).mpr fun g => ?_)
  rw [h g, List.mem_filter, List.mem_range]
theorem ho_cnt_or {g l : Int64} (hd : ∀ i, hb l i = true → hb g i = false) : ∀ k, ho_cnt g k ≤ ho_cnt (g ||| l) k ∧ ((∃ i, i < k ∧ hb l i = true) → ho_cnt g k + 1 ≤ ho_cnt (g ||| l) k)
  | 0 => ⟨Nat.le_refl _, fun ⟨i, hi, _⟩ => by omega⟩
  | k + 1 => by
    have ih := ho_cnt_or hd k
    rw [ho_cnt, ho_cnt, hb_or]
    by_cases c : hb l k = true
    · have := hd k c
      rw [this, c]
      have := ih.1
      exact ⟨by simp; omega, fun _ => by simp; omega⟩
    · have c' : hb l k = false := by cases q : hb l k <;> simp_all
      rw [c', Bool.or_false]
      have h1 := ih.1
      refine ⟨by omega, fun ⟨i, hi, h⟩ => ?_⟩
      have : i ≠ k := fun e => by rw [e] at h; exact c h
      have := ih.2 ⟨i, by omega, h⟩
      omega
/-- the pasts of those below k that are held, together -/
def ho_un (K : Nat → ho_M) (hd : Int64) : Nat → Int64
  | 0 => 0
  | k + 1 => if hb hd k = true then ho_un K hd k ||| (K k).2.2.2 else ho_un K hd k
def ho_hds (K : Nat → ho_M) (n : Nat) (hd : Int64) : Int64 := hd &&& (ho_un K hd n ^^^ (-1))
theorem ho_un_hb (K : Nat → ho_M) (hd : Int64) (i : Nat) : ∀ k, hb (ho_un K hd k) i = true ↔ ∃ g, g < k ∧ hb hd g = true ∧ hb (K g).2.2.2 i = true
  | 0 => by
    rw [ho_un, hb_0]
    exact ⟨fun h => (by cases h), fun ⟨g, h, _⟩ => by omega⟩
  | k + 1 => by
    have ih := ho_un_hb K hd i k
    rw [ho_un]
    by_cases c : hb hd k = true
    · rw [if_pos c, hb_or, Bool.or_eq_true, ih]
      constructor
      · rintro (⟨g, h1, h2⟩ | h)
        · exact ⟨g, by omega, h2⟩
        · exact ⟨k, by omega, c, h⟩
      · rintro ⟨g, h1, h2, h3⟩
        by_cases e : g = k
        · subst e; exact Or.inr h3
        · exact Or.inl ⟨g, by omega, h2, h3⟩
    · rw [if_neg c, ih]
      constructor
      · rintro ⟨g, h1, h2⟩
        exact ⟨g, by omega, h2⟩
      · rintro ⟨g, h1, h2, h3⟩
        have : g ≠ k := fun e => by rw [e] at h2; exact c h2
        exact ⟨g, by omega, h2, h3⟩
theorem ho_hds_hb {K : Nat → ho_M} {n : Nat} {hd : Int64} {i : Nat} : hb (ho_hds K n hd) i = true ↔ hb hd i = true ∧ ∀ g, g < n → hb hd g = true → ¬ hb (K g).2.2.2 i = true := by
  by_cases hi : i < 64
  · rw [ho_hds, hb_and, hb_not hi, Bool.and_eq_true]
    refine and_congr Iff.rfl ⟨fun h g h1 h2 h3 => ?_, fun h => ?_⟩
    · rw [(ho_un_hb K hd i n).mpr ⟨g, h1, h2, h3⟩] at h
      cases h
    · cases q : hb (ho_un K hd n) i with
      | false => rfl
      | true =>
        obtain ⟨g, h1, h2, h3⟩ := (ho_un_hb K hd i n).mp q
        exact absurd h3 (h g h1 h2)
  · rw [hb_ge (by omega), hb_ge (x := hd) (by omega)]
    simp
/-- the links of those of a set below k, together -/
def ho_ls (K : Nat → ho_M) (set : Int64) : Nat → Int64
  | 0 => 0
  | k + 1 => if hb set k = true then ho_ls K set k ||| (K k).2.2.1 else ho_ls K set k
theorem ho_ls_hb (K : Nat → ho_M) (set : Int64) (i : Nat) : ∀ k, hb (ho_ls K set k) i = true ↔ ∃ g, g < k ∧ hb set g = true ∧ hb (K g).2.2.1 i = true
  | 0 => by
    rw [ho_ls, hb_0]
    exact ⟨fun h => (by cases h), fun ⟨g, h, _⟩ => by omega⟩
  | k + 1 => by
    have ih := ho_ls_hb K set i k
    rw [ho_ls]
    by_cases c : hb set k = true
    · rw [if_pos c, hb_or, Bool.or_eq_true, ih]
      constructor
      · rintro (⟨g, h1, h2⟩ | h)
        · exact ⟨g, by omega, h2⟩
        · exact ⟨k, by omega, c, h⟩
      · rintro ⟨g, h1, h2, h3⟩
        by_cases e : g = k
        · subst e; exact Or.inr h3
        · exact Or.inl ⟨g, by omega, h2, h3⟩
    · rw [if_neg c, ih]
      constructor
      · rintro ⟨g, h1, h2⟩
        exact ⟨g, by omega, h2⟩
      · rintro ⟨g, h1, h2, h3⟩
        have : g ≠ k := fun e => by rw [e] at h2; exact c h2
        exact ⟨g, by omega, h2, h3⟩
theorem hb_or0 (x : Int64) : x ||| 0 = x := hb_ext fun i _ => by rw [hb_or, hb_0, Bool.or_false]
theorem hb_oras (x y z : Int64) : x ||| y ||| z = x ||| (y ||| z) := hb_ext fun i _ => by rw [hb_or, hb_or, hb_or, hb_or, Bool.or_assoc]
section MP33
variable {I : Nat → Nat → Int32} {J : Nat → Nat → Int64} {cn : Int32} {cm : Int64} {so : Int32} {K : Nat → ho_M} {n : Nat}
theorem pm_headSet5 {post : Int64 → (Nat → Nat → Int32) → (Nat → Nat → Int64) → Int32 → Int64 → Int32 → Prop} {r : Nat} (hk : mKn K n I J cn) (hr : r < 4) (h : post (ho_hds K n (J 3 r)) I J cn cm so) : ∀ d k, k + d = n → wMheadSet_5 post (d + 1) I J cn cm so (nI r) (ho_un K (J 3 r) k) (nI k) := by
  have hn := hk.1
  have hc := hk.2.1
  intro d
  induction d with
  | zero =>
    intro k e
    have e : k = n := by omega
    subst e
    rw [wMheadSet_5_s, tN (show r < 2 ^ 31 by omega)]
    exact ⟨fun _ => ⟨vp_in_nI hr (by omega), h⟩, fun c => absurd (by rw [hc]; exact nI_le (Nat.le_refl _) (by omega)) c⟩
  | succ d ih =>
    intro k e
    rw [wMheadSet_5_s, tN (show r < 2 ^ 31 by omega)]
    refine ⟨fun c => absurd (by rw [hc] at c; exact c) (nI_ge (show k < n by omega) (by omega)), fun _ => ⟨vp_in_nI hr (by omega), pm_in1 (by omega) (bI_br (fun q => ?_) (fun q => ⟨vp_in_nI (by omega) (by omega), ?_⟩))⟩⟩
    · have := ih (k + 1) (by omega)
      rw [ho_un, if_neg q] at this
      rw [nI_1]
      exact this
    · have := ih (k + 1) (by omega)
      rw [ho_un, if_pos q] at this
      rw [nI_1, tN (show k < 2 ^ 31 by omega), (hk.2.2.2 k (by omega)).2.2.1]
      exact this
theorem pm_headSet {post : Int64 → (Nat → Nat → Int32) → (Nat → Nat → Int64) → Int32 → Int64 → Int32 → Prop} {r : Nat} (hk : mKn K n I J cn) (hr : r < 4) (h : post (ho_hds K n (J 3 r)) I J cn cm so) : wMheadSet post I J cn cm so (nI r) := ⟨_, pm_headSet5 hk hr h n 0 (by omega)⟩
theorem pm_size4 {post : Int32 → (Nat → Nat → Int32) → (Nat → Nat → Int64) → Int32 → Int64 → Int32 → Prop} {x : Int64} (h : post (nI (ho_cnt x 40)) I J cn cm so) : ∀ d k, k + d = 40 → wMsize_4 post (d + 1) I J cn cm so x (nI (ho_cnt x k)) (nI k) := by
  have e40 : ∀ k, k ≤ 40 → ((40 : Int32) ≤ nI k ↔ 40 ≤ k) := fun k hk => by rw [show (40 : Int32) = nI 40 from rfl]; exact nI_leI (by omega) (by omega)
  intro d
  induction d with
  | zero =>
    intro k e
    have e : k = 40 := by omega
    subst e
    rw [wMsize_4_s]
    exact ⟨fun _ => h, fun c => absurd ((e40 40 (by omega)).mpr (by omega)) c⟩
  | succ d ih =>
    intro k e
    rw [wMsize_4_s, e40 k (by omega)]
    refine ⟨fun c => by omega, fun _ => pm_in1 (by omega) (bI_br (fun q => ?_) (fun q => ?_))⟩
    · have := ih (k + 1) (by omega)
      rw [ho_cnt, if_neg q] at this
      rw [nI_1, Int32.add_zero]
      exact this
    · have := ih (k + 1) (by omega)
      rw [ho_cnt, if_pos q] at this
      rw [nI_1, nI_1]
      exact this
theorem pm_size {post : Int32 → (Nat → Nat → Int32) → (Nat → Nat → Int64) → Int32 → Int64 → Int32 → Prop} {x : Int64} (h : post (nI (ho_cnt x 40)) I J cn cm so) : wMsize post I J cn cm so x := ⟨_, pm_size4 h 40 0 (by omega)⟩
theorem pm_links17 {post : Int64 → (Nat → Nat → Int32) → (Nat → Nat → Int64) → Int32 → Int64 → Int32 → Prop} {K5 : (Nat → Nat → Int32) → (Nat → Nat → Int64) → Int32 → Int64 → Int32 → Int64 → Int64 → Int32 → Prop} {set : Int64} {g : Nat} {a : Int64} (hok : ho_ok K n) (hk : mKn K n I J cn) (hg : g < n) (q : hb set g = true) (h : K5 I J cn cm so set (a ||| (K g).2.2.1) (nI (g + 1))) : ∀ d j, j + d = (K g).1.2.2.length → wMlinkSet_17 post K5 (d + 1) I J cn cm so set (a ||| (ho_cd K n (K g).1.2.2 j).2.1) (nI g) (nI j) := by
  have hn := hk.1
  have hK := (hok.2.2 g hg)
  obtain ⟨_, hm, _⟩ := hk.2.2.2 g hg
  have h4 : I 4 g = nI (K g).1.2.2.length := hm.2.2.2.2.1
  have hl4 : (K g).1.2.2.length ≤ 4 := hm.2.2.2.2.2.1
  intro d
  induction d with
  | zero =>
    intro j e
    have e : j = (K g).1.2.2.length := by omega
    rw [wMlinkSet_17_s, tN (show g < 2 ^ 31 by omega), h4, nI_leI (by omega) (by omega)]
    refine ⟨vp_in_nI (by omega) (by omega), fun _ => ?_, fun c => absurd (by omega) c⟩
    have e2 : (K g).2.2.1 = (ho_cd K n (K g).1.2.2 (K g).1.2.2.length).2.1 := by
      have := congrArg (fun m : ho_M => m.2.2.1) hK.2.1
      exact this
    rw [nI_1, e, ← e2]
    exact h
  | succ d ih =>
    intro j e
    obtain ⟨f, hf, hfind⟩ := hK.1 j (by omega)
    rw [wMlinkSet_17_s, tN (show g < 2 ^ 31 by omega), h4, nI_leI (by omega) (by omega)]
    refine ⟨vp_in_nI (by omega) (by omega), fun c => by omega, fun _ => pm_in1 (by omega) (bI_br (fun c => absurd q c) (fun _ => ⟨?_, pm_findK hk ?_⟩))⟩
    · rw [n4]; exact vp_in_nI (by omega) (by omega)
    · rw [n4, tN (by omega)]
      have e3 : J 1 (4 * g + j) = (K g).1.2.2.getD j 0 := hm.2.2.2.2.2.2 j (by omega)
      rw [e3, hfind, nI_1]
      have := ih (j + 1) (by omega)
      rw [ho_cd, hfind] at this
      dsimp only at this
      rw [← hb_oras] at this
      exact this
theorem pm_links5 {post : Int64 → (Nat → Nat → Int32) → (Nat → Nat → Int64) → Int32 → Int64 → Int32 → Prop} {set : Int64} (hok : ho_ok K n) (hk : mKn K n I J cn) (h : post (ho_ls K set n) I J cn cm so) : ∀ d k, k + d = n → wMlinkSet_5 post (d + 1) I J cn cm so set (ho_ls K set k) (nI k) := by
  have hn := hk.1
  have hc := hk.2.1
  intro d
  induction d with
  | zero =>
    intro k e
    have e : k = n := by omega
    subst e
    rw [wMlinkSet_5_s]
    exact ⟨fun _ => h, fun c => absurd (by rw [hc]; exact nI_le (Nat.le_refl _) (by omega)) c⟩
  | succ d ih =>
    intro k e
    rw [wMlinkSet_5_s]
    refine ⟨fun c => absurd (by rw [hc] at c; exact c) (nI_ge (show k < n by omega) (by omega)), fun _ => ?_⟩
    have ih1 := ih (k + 1) (by omega)
    rw [ho_ls] at ih1
    by_cases q : hb set k = true
    · rw [if_pos q] at ih1
      have := pm_links17 (post := post) (K5 := wMlinkSet_5 post (d + 1)) (cm := cm) (so := so) (a := ho_ls K set k) hok hk (show k < n by omega) q ih1 _ 0 (Nat.zero_add _)
      rw [show (ho_cd K n (K k).1.2.2 0).2.1 = 0 from rfl, hb_or0] at this
      exact ⟨_, this⟩
    · rw [if_neg q] at ih1
      obtain ⟨_, hm, _⟩ := hk.2.2.2 k (by omega)
      refine ⟨1, ?_⟩
      rw [wMlinkSet_17_s]
      refine ⟨vp_in_nI (by omega) (by omega), fun _ => ?_, fun _ => pm_in1 (by omega) (bI_br (fun _ => ?_) (fun c => absurd c q))⟩
      · rw [nI_1]; exact ih1
      · rw [nI_1]; exact ih1
theorem pm_linkSet {post : Int64 → (Nat → Nat → Int32) → (Nat → Nat → Int64) → Int32 → Int64 → Int32 → Prop} {set : Int64} (hok : ho_ok K n) (hk : mKn K n I J cn) (h : post (ho_ls K set n) I J cn cm so) : wMlinkSet post I J cn cm so set := ⟨_, pm_links5 hok hk h n 0 (by omega)⟩
theorem pm_sortHeads {post : (Nat → Nat → Int32) → (Nat → Nat → Int64) → Int32 → Int64 → Int32 → Prop} {r : Nat} (hk : mKn K n I J cn) (hr : r < 4) (h : ∀ I' L, (∀ k, k ≠ 10 → I' k = I k) → mOrd I' L → ho_srt False K (fun g => g < n ∧ hb (ho_hds K n (J 3 r)) g = true) L → post I' J cn cm (nI L.length)) : wMsortHeads post I J cn cm so (nI r) := by
  refine pm_headSet hk hr ?_
  have := pm_sort (cm := cm) (so := so) (set := ho_hds K n (J 3 r)) False hk h
  rw [bI_f (fun q => q)] at this
  exact this
end MP33
