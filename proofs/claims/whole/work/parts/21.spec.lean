/-! the mathematics: an operation is (hash, (author, kind, key, value), links); a known one has its depth, the set of its links and its past beside it -/
abbrev ho_O : Type := Int64 × (Int32 × Int32 × Int32 × Int32) × List Int64
abbrev ho_M : Type := ho_O × Nat × Int64 × Int64
def ho_bit (g : Nat) : Int64 := hj_shl 1 (nI g)
theorem ho_bit_hb {g : Nat} (hg : g < 64) (i : Nat) : hb (ho_bit g) i = decide (g = i) := hb_bit hg i
noncomputable def cif (P : Prop) {α : Type} (a b : α) : α := @ite α P (Classical.propDecidable P) a b
theorem cif_t {P : Prop} {α : Type} {a b : α} (h : P) : cif P a b = a := by unfold cif; exact if_pos h
theorem cif_f {P : Prop} {α : Type} {a b : α} (h : ¬ P) : cif P a b = b := by unfold cif; exact if_neg h
/-- the first of n that has a hash -/
def ho_find (K : Nat → ho_M) (h : Int64) : Nat → Option Nat
  | 0 => none
  | n + 1 => match ho_find K h n with
    | some g => some g
    | none => if (K n).1.1 = h then some n else none
theorem ho_find_some {K : Nat → ho_M} {h : Int64} : ∀ {n g : Nat}, ho_find K h n = some g → g < n ∧ (K g).1.1 = h
  | 0, g, e => by cases e
  | n + 1, g, e => by
    rw [ho_find] at e
    cases hf : ho_find K h n with
    | some g' =>
      rw [hf] at e
      cases e
      have := ho_find_some hf
      exact ⟨by omega, this.2⟩
    | none =>
      rw [hf] at e
      by_cases hc : (K n).1.1 = h
      · simp [hc] at e
        subst e
        exact ⟨by omega, hc⟩
      · simp [hc] at e
theorem ho_find_none {K : Nat → ho_M} {h : Int64} : ∀ {n : Nat}, ho_find K h n = none → ∀ i, i < n → (K i).1.1 ≠ h
  | 0, _, i, hi => by omega
  | n + 1, e, i, hi => by
    rw [ho_find] at e
    cases hf : ho_find K h n with
    | some g' => rw [hf] at e; cases e
    | none =>
      rw [hf] at e
      by_cases hc : (K n).1.1 = h
      · simp [hc] at e
      · by_cases hin : i = n
        · subst hin; exact hc
        · exact ho_find_none hf i (by omega)
theorem ho_find_no {K : Nat → ho_M} {h : Int64} : ∀ {n : Nat}, (∀ i, i < n → (K i).1.1 ≠ h) → ho_find K h n = none
  | 0, _ => rfl
  | n + 1, e => by
    rw [ho_find, ho_find_no (n := n) (fun i hi => e i (by omega))]
    simp [e n (by omega)]
/-- by walking up: what is found is the first -/
theorem ho_find_first {K : Nat → ho_M} {h : Int64} : ∀ {n g : Nat}, g < n → (K g).1.1 = h → (∀ i, i < g → (K i).1.1 ≠ h) → ho_find K h n = some g
  | 0, g, hg, _, _ => by omega
  | n + 1, g, hg, e, hno => by
    rw [ho_find]
    by_cases hgn : g = n
    · subst hgn
      rw [ho_find_no hno]
      simp [e]
    · rw [ho_find_first (n := n) (by omega) e hno]
/-- no two known ones have the same hash -/
def ho_dis (K : Nat → ho_M) (n : Nat) : Prop := ∀ i j, i < n → j < n → (K i).1.1 = (K j).1.1 → i = j
theorem ho_find_of {K : Nat → ho_M} {h : Int64} {n g : Nat} (hd : ho_dis K n) (hg : g < n) (e : (K g).1.1 = h) : ho_find K h n = some g :=
  ho_find_first hg e (fun i hi q => by have := hd i g (by omega) hg (by rw [q, e]); omega)
theorem ho_find_ext {K K' : Nat → ho_M} {h : Int64} : ∀ {n : Nat}, (∀ i, i < n → K i = K' i) → ho_find K h n = ho_find K' h n
  | 0, _ => rfl
  | n + 1, e => by rw [ho_find, ho_find, ho_find_ext (n := n) (fun i hi => e i (by omega)), e n (by omega)]
theorem ho_find_mono {K : Nat → ho_M} {h : Int64} {n g : Nat} (e : ho_find K h n = some g) : ∀ {n' : Nat}, n ≤ n' → ho_find K h n' = some g
  | 0, hl => by
    have := ho_find_some e
    omega
  | n' + 1, hl => by
    by_cases hn : n = n' + 1
    · subst hn; exact e
    · rw [ho_find, ho_find_mono (n' := n') e (by omega)]
/-- depth, links and past of what has these links, after j of them -/
def ho_cd (K : Nat → ho_M) (n : Nat) (ls : List Int64) : Nat → Nat × Int64 × Int64
  | 0 => (1, 0, 0)
  | j + 1 => match ho_find K (ls.getD j 0) n with
    | none => ho_cd K n ls j
    | some g => (max (ho_cd K n ls j).1 ((K g).2.1 + 1), (ho_cd K n ls j).2.1 ||| ho_bit g, (ho_cd K n ls j).2.2 ||| (K g).2.2.2)
def ho_cand (K : Nat → ho_M) (n : Nat) (o : ho_O) : ho_M := (o, (ho_cd K n o.2.2 o.2.2.length).1, (ho_cd K n o.2.2 o.2.2.length).2.1, (ho_cd K n o.2.2 o.2.2.length).2.1 ||| (ho_cd K n o.2.2 o.2.2.length).2.2)
def ho_has (K : Nat → ho_M) (n : Nat) (hd : Int64) (h : Int64) : Bool := match ho_find K h n with
  | some g => hb hd g
  | none => false
def ho_lh (K : Nat → ho_M) (n : Nat) (hd : Int64) (ls : List Int64) : Prop := ∀ j, j < ls.length → ho_has K n hd (ls.getD j 0) = true
def ho_grow (ls : List Int64) : Prop := ∀ j, j + 1 < ls.length → ls.getD j 0 < ls.getD (j + 1) 0
def ho_shape (o : ho_O) : Prop := 0 ≤ o.2.1.1 ∧ o.2.1.1 < 4 ∧ 0 ≤ o.2.1.2.1 ∧ o.2.1.2.1 ≤ 3 ∧ 0 ≤ o.2.1.2.2.1 ∧ o.2.1.2.2.1 < 8 ∧ ho_grow o.2.2
def ho_freed (K : Nat → ho_M) (n g : Nat) (m : ho_M) : Prop := ∃ i, i < n ∧ hb m.2.2.2 i = true ∧ (K i).1.2.1.2.1 = 3 ∧ (K i).1.2.1.2.2.1 = (K g).1.2.1.2.2.1 ∧ (K i).1.2.1.1 = (K g).1.2.1.1 ∧ hb (K i).2.2.2 g = true
def ho_lock (K : Nat → ho_M) (g : Nat) (m : ho_M) : Prop := hb m.2.2.2 g = true ∧ (K g).1.2.1.2.1 = 2 ∧ (K g).1.2.1.2.2.1 = m.1.2.1.2.2.1 ∧ (K g).1.2.1.1 ≠ m.1.2.1.1
def ho_right (K : Nat → ho_M) (n : Nat) (m : ho_M) : Prop := ∀ i, i < n → ¬ (hb m.2.2.1 i = true ∧ (K i).2.2.2 &&& m.2.2.1 ≠ 0) ∧ ¬ (ho_lock K i m ∧ ¬ ho_freed K n i m)
/-- a replica's view: what is known, how many, what is held here, what waits here -/
abbrev ho_V : Type := (Nat → ho_M) × Nat × Int64 × List ho_O
def ho_put (K : Nat → ho_M) (n : Nat) (m : ho_M) : Nat → ho_M := fun i => if i = n then m else K i
def ho_wait (wt : List ho_O) (o : ho_O) : List ho_O := if wt.any (fun x => x.1 == o.1) then wt else if 5 < (wt ++ [o]).length then (wt ++ [o]).eraseIdx 0 else wt ++ [o]
/-- an operation comes: what is then, and the answer -/
noncomputable def ho_come1 (S : ho_V) (o : ho_O) : ho_V × Int32 := match ho_find S.1 o.1 S.2.1 with
  | some g => cif (hb S.2.2.1 g = true) (S, 0) (cif (ho_shape (S.1 g).1) (cif (ho_lh S.1 S.2.1 S.2.2.1 (S.1 g).1.2.2) ((S.1, S.2.1, S.2.2.1 ||| ho_bit g, S.2.2.2), 1) ((S.1, S.2.1, S.2.2.1, ho_wait S.2.2.2 (S.1 g).1), 2)) (S, 3))
  | none => cif (ho_shape o) (cif (ho_lh S.1 S.2.1 S.2.2.1 o.2.2) (cif (S.2.1 < 40 ∧ ho_right S.1 S.2.1 (ho_cand S.1 S.2.1 o)) ((ho_put S.1 S.2.1 (ho_cand S.1 S.2.1 o), S.2.1 + 1, S.2.2.1 ||| ho_bit S.2.1, S.2.2.2), 1) (S, 3)) ((S.1, S.2.1, S.2.2.1, ho_wait S.2.2.2 o), 2)) (S, 3)
/-- i is the first that waits and is ready -/
def ho_first (S : ho_V) (i : Nat) : Prop := i < S.2.2.2.length ∧ ho_lh S.1 S.2.1 S.2.2.1 (S.2.2.2.getD i (0, (0, 0, 0, 0), [])).2.2 ∧ ∀ j, j < i → ¬ ho_lh S.1 S.2.1 S.2.2.1 (S.2.2.2.getD j (0, (0, 0, 0, 0), [])).2.2
def ho_idle (S : ho_V) : Prop := ∀ j, j < S.2.2.2.length → ¬ ho_lh S.1 S.2.1 S.2.2.1 (S.2.2.2.getD j (0, (0, 0, 0, 0), [])).2.2
/-- the first that is ready leaves and comes -/
noncomputable def ho_step (S : ho_V) (i : Nat) : ho_V := (ho_come1 (S.1, S.2.1, S.2.2.1, S.2.2.2.eraseIdx i) (S.2.2.2.getD i (0, (0, 0, 0, 0), []))).1
/-- k steps at most lead from S to T, where nothing is ready -/
def ho_runs : Nat → ho_V → ho_V → Prop
  | 0, S, T => ho_idle S ∧ T = S
  | k + 1, S, T => (ho_idle S ∧ T = S) ∨ ∃ i, ho_first S i ∧ ho_runs k (ho_step S i) T
