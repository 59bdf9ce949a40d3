/-! what holds of the known ones, and how it grows -/
def ho_ok (K : Nat → ho_M) (n : Nat) : Prop := n ≤ 40 ∧ ho_dis K n ∧ ∀ g, g < n → (∀ j, j < (K g).1.2.2.length → ∃ f, f < g ∧ ho_find K ((K g).1.2.2.getD j 0) n = some f) ∧ K g = ho_cand K n (K g).1 ∧ ho_shape (K g).1 ∧ ho_right K n (K g) ∧ (K g).2.1 ≤ g + 1 ∧ (K g).1.2.2.length ≤ 4
theorem ho_put_lt {K : Nat → ho_M} {n g : Nat} {m : ho_M} (h : g < n) : ho_put K n m g = K g := by unfold ho_put; rw [if_neg (by omega)]
theorem ho_put_n {K : Nat → ho_M} {n : Nat} {m : ho_M} : ho_put K n m n = m := by unfold ho_put; rw [if_pos rfl]
theorem ho_find_put {K : Nat → ho_M} {n : Nat} {m : ho_M} {x : Int64} : ho_find (ho_put K n m) x (n + 1) = match ho_find K x n with
    | some g => some g
    | none => if m.1.1 = x then some n else none := by
  rw [ho_find, ho_find_ext (K' := K) (fun i hi => ho_put_lt hi), ho_put_n]
  rfl
theorem ho_find_put_some {K : Nat → ho_M} {n g : Nat} {m : ho_M} {x : Int64} (h : ho_find K x n = some g) : ho_find (ho_put K n m) x (n + 1) = some g := by rw [ho_find_put, h]
section HOK
variable {K : Nat → ho_M} {n : Nat} {m : ho_M}
theorem ho_cd_put {ls : List Int64} (hf : ∀ j, j < ls.length → ∃ g, ho_find K (ls.getD j 0) n = some g) : ∀ j, j ≤ ls.length → ho_cd (ho_put K n m) (n + 1) ls j = ho_cd K n ls j := by
  intro j
  induction j with
  | zero => intro _; rfl
  | succ j ih =>
    intro hj
    obtain ⟨g, hg⟩ := hf j (by omega)
    rw [ho_cd, ho_cd, ho_find_put_some hg, hg, ih (by omega)]
    dsimp only
    rw [ho_put_lt (ho_find_some hg).1]
theorem ho_cand_put {o : ho_O} (hf : ∀ j, j < o.2.2.length → ∃ g, ho_find K (o.2.2.getD j 0) n = some g) : ho_cand (ho_put K n m) (n + 1) o = ho_cand K n o := by
  unfold ho_cand
  rw [ho_cd_put hf _ (Nat.le_refl _)]
theorem ho_past_lt (h : ho_ok K n) : ∀ g, g < n → ∀ i, hb (K g).2.2.2 i = true → i < g := by
  intro g
  induction g using Nat.strongRecOn with
  | _ g ih =>
    intro hg i hi
    obtain ⟨hl, hc, -⟩ := h.2.2 g hg
    have h40 := h.1
    rw [hc] at hi
    have hi2 : (hb (ho_cd K n (K g).1.2.2 (K g).1.2.2.length).2.1 i || hb (ho_cd K n (K g).1.2.2 (K g).1.2.2.length).2.2 i) = true := by rw [← hb_or]; exact hi
    rw [Bool.or_eq_true, ho_cd_ls (by omega), ho_cd_ps] at hi2
    rcases hi2 with ⟨a, ha, h1⟩ | ⟨a, f, ha, h1, h2⟩
    · obtain ⟨f, hf, h3⟩ := hl a ha
      rw [h1] at h3
      cases h3
      exact hf
    · obtain ⟨f', hf, h3⟩ := hl a ha
      rw [h1] at h3
      cases h3
      have := ih f hf (by omega) i h2
      omega
theorem ho_cand_bits (h : ho_ok K n) {o : ho_O} {i : Nat} (hi : hb (ho_cand K n o).2.2.2 i = true) : i < n := by
  have h40 := h.1
  have hi2 : (hb (ho_cd K n o.2.2 o.2.2.length).2.1 i || hb (ho_cd K n o.2.2 o.2.2.length).2.2 i) = true := by rw [← hb_or]; exact hi
  rw [Bool.or_eq_true, ho_cd_ls (by omega), ho_cd_ps] at hi2
  rcases hi2 with ⟨a, ha, h1⟩ | ⟨a, f, ha, h1, h2⟩
  · exact (ho_find_some h1).1
  · have h3 := (ho_find_some h1).1
    have := ho_past_lt h f h3 i h2
    omega
theorem ho_cand_lbits (h : ho_ok K n) {o : ho_O} {i : Nat} (hi : hb (ho_cand K n o).2.2.1 i = true) : i < n := by
  have h40 := h.1
  have hi2 : hb (ho_cd K n o.2.2 o.2.2.length).2.1 i = true := hi
  rw [ho_cd_ls (by omega)] at hi2
  obtain ⟨a, ha, h1⟩ := hi2
  exact (ho_find_some h1).1
theorem ho_right_put {m' : ho_M} (hp : ∀ i, hb m'.2.2.2 i = true → i < n) (hl : ∀ i, hb m'.2.2.1 i = true → i < n) (h : ho_right K n m') : ho_right (ho_put K n m) (n + 1) m' := by
  intro i hi
  rcases Nat.lt_or_ge i n with z | z
  · obtain ⟨h1, h2⟩ := h i z
    rw [ho_put_lt z]
    refine ⟨h1, fun ⟨q1, q2⟩ => h2 ⟨?_, fun ⟨f, hf, g1, g2, g3, g4, g5⟩ => q2 ⟨f, by omega, ?_⟩⟩⟩
    · unfold ho_lock at q1 ⊢
      rw [ho_put_lt z] at q1
      exact q1
    · rw [ho_put_lt hf, ho_put_lt z]
      exact ⟨g1, g2, g3, g4, g5⟩
  · have e : i = n := by omega
    subst e
    exact ⟨fun q => by have := hl i q.1; omega, fun q => by have := hp i q.1.1; omega⟩
theorem ho_cand_dep (h : ho_ok K n) {o : ho_O} : (ho_cand K n o).2.1 ≤ n + 1 := by
  show (ho_cd K n o.2.2 o.2.2.length).1 ≤ n + 1
  generalize o.2.2.length = j
  induction j with
  | zero => show 1 ≤ n + 1; omega
  | succ j ih =>
    rw [ho_cd]
    cases hf : ho_find K (o.2.2.getD j 0) n with
    | none => exact ih
    | some g =>
      have hg := (ho_find_some hf).1
      have := (h.2.2 g hg).2.2.2.2.1
      exact Nat.max_le.mpr ⟨ih, by omega⟩
theorem ho_ok_put (h : ho_ok K n) (hn : n < 40) {o : ho_O} (hlen : o.2.2.length ≤ 4) (hs : ho_shape o) (hnew : ho_find K o.1 n = none) (hf : ∀ j, j < o.2.2.length → ∃ g, ho_find K (o.2.2.getD j 0) n = some g) (hr : ho_right K n (ho_cand K n o)) : ho_ok (ho_put K n (ho_cand K n o)) (n + 1) := by
  refine ⟨by omega, fun i j hi hj e => ?_, fun g hg => ?_⟩
  · rcases Nat.lt_or_ge i n with zi | zi <;> rcases Nat.lt_or_ge j n with zj | zj
    · rw [ho_put_lt zi, ho_put_lt zj] at e
      exact h.2.1 i j zi zj e
    · rw [show j = n by omega, ho_put_lt zi, ho_put_n] at e
      exact absurd e (ho_find_none hnew i zi)
    · rw [show i = n by omega, ho_put_lt zj, ho_put_n] at e
      exact absurd e.symm (ho_find_none hnew j zj)
    · omega
  · rcases Nat.lt_or_ge g n with z | z
    · obtain ⟨h1, h2, h3, h4, h5, h6⟩ := h.2.2 g z
      have hfg : ∀ j, j < (K g).1.2.2.length → ∃ f, ho_find K ((K g).1.2.2.getD j 0) n = some f := fun j hj => by obtain ⟨f, _, q⟩ := h1 j hj; exact ⟨f, q⟩
      rw [ho_put_lt z]
      refine ⟨fun j hj => ?_, by rw [ho_cand_put hfg]; exact h2, h3, ho_right_put (fun i hi => by have := ho_past_lt h g z i hi; omega) (fun i hi => by rw [h2] at hi; exact ho_cand_lbits h hi) h4, h5, h6⟩
      obtain ⟨f, hf1, hf2⟩ := h1 j hj
      exact ⟨f, hf1, ho_find_put_some hf2⟩
    · have e : g = n := by omega
      subst e
      rw [ho_put_n]
      refine ⟨fun j hj => ?_, (ho_cand_put hf).symm, hs, ho_right_put (fun i hi => ho_cand_bits h hi) (fun i hi => ho_cand_lbits h hi) hr, ho_cand_dep h, hlen⟩
      obtain ⟨f, hf1⟩ := hf j hj
      exact ⟨f, (ho_find_some hf1).1, ho_find_put_some hf1⟩
theorem ho_lh_found {hd : Int64} {ls : List Int64} (h : ho_lh K n hd ls) : ∀ j, j < ls.length → ∃ g, ho_find K (ls.getD j 0) n = some g := fun j hj => by
  obtain ⟨g, hg, -⟩ := ho_has_iff.mp (h j hj)
  exact ⟨g, hg⟩
end HOK
/-- a replica's view is sound: the known ones, what waits is of at most four links, at most five wait -/
def ho_vok (S : ho_V) : Prop := ho_ok S.1 S.2.1 ∧ S.2.2.2.length ≤ 5 ∧ ∀ o, o ∈ S.2.2.2 → o.2.2.length ≤ 4
theorem ho_wait_len {wt : List ho_O} {o : ho_O} (h : wt.length ≤ 5) : (ho_wait wt o).length ≤ 5 := by
  unfold ho_wait
  have e : (wt ++ [o]).length = wt.length + 1 := by rw [List.length_append]; rfl
  split
  · exact h
  · split
    · rw [List.length_eraseIdx_of_lt (by omega)]; omega
    · omega
theorem ho_wait_mem {wt : List ho_O} {o x : ho_O} (h : x ∈ ho_wait wt o) : x ∈ wt ∨ x = o := by
  unfold ho_wait at h
  have q : x ∈ wt ++ [o] → x ∈ wt ∨ x = o := fun z => by
    rcases List.mem_append.mp z with z | z
    · exact Or.inl z
    · exact Or.inr (List.mem_singleton.mp z)
  split at h
  · exact Or.inl h
  · split at h
    · exact q (List.mem_of_mem_eraseIdx h)
    · exact q h
theorem ho_come1_ok {S : ho_V} (h : ho_vok S) {o : ho_O} (hl : o.2.2.length ≤ 4) : ho_vok (ho_come1 S o).1 := by
  obtain ⟨h1, h2, h3⟩ := h
  unfold ho_come1
  cases hf : ho_find S.1 o.1 S.2.1 with
  | some g =>
    have hg := (ho_find_some hf).1
    by_cases c1 : hb S.2.2.1 g = true
    · simp only [cif_t c1]; exact ⟨h1, h2, h3⟩
    · simp only [cif_f c1]
      by_cases c2 : ho_shape (S.1 g).1
      · simp only [cif_t c2]
        by_cases c3 : ho_lh S.1 S.2.1 S.2.2.1 (S.1 g).1.2.2
        · simp only [cif_t c3]; exact ⟨h1, h2, h3⟩
        · simp only [cif_f c3]
          refine ⟨h1, ho_wait_len h2, fun x hx => ?_⟩
          rcases ho_wait_mem hx with q | q
          · exact h3 x q
          · rw [q]; exact (h1.2.2 g hg).2.2.2.2.2
      · simp only [cif_f c2]; exact ⟨h1, h2, h3⟩
  | none =>
    by_cases c2 : ho_shape o
    · simp only [cif_t c2]
      by_cases c3 : ho_lh S.1 S.2.1 S.2.2.1 o.2.2
      · simp only [cif_t c3]
        by_cases c4 : S.2.1 < 40 ∧ ho_right S.1 S.2.1 (ho_cand S.1 S.2.1 o)
        · simp only [cif_t c4]
          exact ⟨ho_ok_put h1 c4.1 hl c2 hf (ho_lh_found c3) c4.2, h2, h3⟩
        · simp only [cif_f c4]; exact ⟨h1, h2, h3⟩
      · simp only [cif_f c3]
        refine ⟨h1, ho_wait_len h2, fun x hx => ?_⟩
        rcases ho_wait_mem hx with q | q
        · exact h3 x q
        · rw [q]; exact hl
    · simp only [cif_f c2]; exact ⟨h1, h2, h3⟩
