/-! the reference's predicates, one by one: truth values, sets, finding -/
noncomputable def bI (P : Prop) : Int32 := cif P 1 0
theorem bI_t {P : Prop} (h : P) : bI P = 1 := cif_t h
theorem bI_f {P : Prop} (h : ¬ P) : bI P = 0 := cif_f h
theorem bI_br {P A B : Prop} (f : ¬ P → A) (t : P → B) : (bI P = 0 → A) ∧ (¬ bI P = 0 → B) := by
  by_cases h : P
  · rw [bI_t h]; exact ⟨fun q => absurd q (by decide), fun _ => t h⟩
  · rw [bI_f h]; exact ⟨fun _ => f h, fun q => absurd rfl q⟩
theorem bI_nr {P A B : Prop} (t : P → B) (f : ¬ P → A) : (¬ bI P = 0 → B) ∧ (bI P = 0 → A) := ⟨(bI_br f t).2, (bI_br f t).1⟩
theorem bI_nar (P : Prop) : narrow .boolean (.int (bI P)) = .int (bI P) := by
  by_cases h : P
  · rw [bI_t h]; rfl
  · rw [bI_f h]; rfl
theorem bI_ext {P Q : Prop} (h : P ↔ Q) : bI P = bI Q := by rw [propext h]
def mIx (o : Option Nat) : Int32 := match o with
  | none => -1
  | some g => nI g
section MP1
variable {I : Nat → Nat → Int32} {J : Nat → Nat → Int64} {cn : Int32} {cm : Int64} {so : Int32}
theorem pm_in {post : Int32 → (Nat → Nat → Int32) → (Nat → Nat → Int64) → Int32 → Int64 → Int32 → Prop} {set : Int64} {o : Option Nat} (ho : ∀ g, o = some g → g < 64) (h : post (bI (∃ g, o = some g ∧ hb set g = true)) I J cn cm so) : wMin post I J cn cm so set (mIx o) := by
  unfold wMin
  cases o with
  | none =>
    rw [bI_f (by rintro ⟨g, h, -⟩; cases h)] at h
    exact ⟨fun _ => h, fun c => absurd (show mIx none < 0 by decide) c⟩
  | some g =>
    have hg := ho g rfl
    refine ⟨fun c => absurd c (nI_pos (by omega)), fun _ => ?_⟩
    show (¬ lg_cmp (hj_shr set (nI g) &&& 1) 1 = 0 → _) ∧ (lg_cmp (hj_shr set (nI g) &&& 1) 1 = 0 → _)
    rw [lg_cmp_eq, hb_ref hg]
    by_cases hx : hb set g = true
    · rw [bI_t ⟨g, rfl, hx⟩] at h
      exact ⟨fun c => absurd hx c, fun _ => h⟩
    · rw [bI_f (by rintro ⟨g', h1, h2⟩; cases h1; exact hx h2)] at h
      exact ⟨fun _ => h, fun c => absurd c hx⟩
theorem pm_in1 {post : Int32 → (Nat → Nat → Int32) → (Nat → Nat → Int64) → Int32 → Int64 → Int32 → Prop} {set : Int64} {g : Nat} (hg : g < 64) (h : post (bI (hb set g = true)) I J cn cm so) : wMin post I J cn cm so set (nI g) := by
  refine pm_in (o := some g) (fun g' e => by cases e; exact hg) ?_
  rw [bI_ext (show (∃ g', some g = some g' ∧ hb set g' = true) ↔ hb set g = true from ⟨by rintro ⟨g', e, h⟩; cases e; exact h, fun h => ⟨g, rfl, h⟩⟩)]
  exact h
theorem pm_isReplica {post : Int32 → (Nat → Nat → Int32) → (Nat → Nat → Int64) → Int32 → Int64 → Int32 → Prop} {r : Int32} (hf : (∀ k : Nat, k < 4 → ¬ r = nI k) → post 0 I J cn cm so) (ht : ∀ k : Nat, k < 4 → r = nI k → post 1 I J cn cm so) : wMisReplica post I J cn cm so r := by
  unfold wMisReplica
  refine ⟨fun c => hf (fun k hk e => ?_), fun c => ⟨fun c2 => hf (fun k hk e => ?_), fun c2 => ?_⟩⟩
  · rw [e] at c
    exact nI_pos (by omega) c
  · rw [e] at c2
    have h3 : (3 : Int32) = nI 3 := by decide
    rw [h3] at c2
    exact nI_nlt (show k ≤ 3 by omega) (by omega) c2
  · obtain ⟨j, hj, e⟩ := nI_of2 (M := 3) (n := 3) (by decide) c (Int32.not_lt.mp c2)
    exact ht j (by omega) e
theorem pm_find_loop {post : Int32 → (Nat → Nat → Int32) → (Nat → Nat → Int64) → Int32 → Int64 → Int32 → Prop} {K : Nat → ho_M} {n : Nat} {x : Int64} (hn : n ≤ 40) (hc : cn = nI n) (hh : ∀ g, g < n → J 0 g = (K g).1.1) (hd : ho_dis K n) (h : post (mIx (ho_find K x n)) I J cn cm so) : ∀ d g, g + d = n → wMfind_5 post (d + 1) I J cn cm so x (mIx (ho_find K x g)) (nI g) := by
  intro d
  induction d with
  | zero =>
    intro g hg
    have e : g = n := by omega
    subst e
    rw [wMfind_5_s]
    refine ⟨fun _ => h, fun c => absurd ?_ c⟩
    rw [hc]
    exact nI_le (Nat.le_refl _) (by omega)
  | succ d ih =>
    intro g hg
    have hlt : g < n := by omega
    rw [wMfind_5_s]
    refine ⟨fun c => ?_, fun _ => ⟨vp_in_nI (by omega) (by omega), ?_⟩⟩
    · rw [hc] at c
      exact absurd c (nI_ge hlt (by omega))
    · rw [nI_clamp (show g < 2 ^ 31 by omega), lg_cmp_eq, hh g hlt, nI_1]
      have hs : ho_find K x (g + 1) = match ho_find K x g with
        | some g' => some g'
        | none => if (K g).1.1 = x then some g else none := by rw [ho_find]; rfl
      refine ⟨fun c => ?_, fun c => ?_⟩
      · have e : ho_find K x (g + 1) = ho_find K x g := by
          rw [hs]
          cases ho_find K x g <;> simp [c]
        have := ih (g + 1) (by omega)
        rw [e] at this
        exact this
      · have e : ho_find K x (g + 1) = some g := by
          rw [hs]
          cases hf : ho_find K x g with
          | none => simp [c]
          | some g' =>
            obtain ⟨h1, h2⟩ := ho_find_some hf
            have := hd g' g (by omega) hlt (by rw [h2, c])
            omega
        have := ih (g + 1) (by omega)
        rw [e] at this
        exact this
theorem pm_find {post : Int32 → (Nat → Nat → Int32) → (Nat → Nat → Int64) → Int32 → Int64 → Int32 → Prop} {K : Nat → ho_M} {n : Nat} {x : Int64} (hn : n ≤ 40) (hc : cn = nI n) (hh : ∀ g, g < n → J 0 g = (K g).1.1) (hd : ho_dis K n) (h : post (mIx (ho_find K x n)) I J cn cm so) : wMfind post I J cn cm so x :=
  ⟨n + 1, pm_find_loop hn hc hh hd h n 0 (by omega)⟩
end MP1
/-- h takes in x -/
def ho_take (h x : Int64) : Int64 := ((h ^^^ x) * 1099511628211) ^^^ (hj_ushr ((h ^^^ x) * 1099511628211) 29)
def ho_hl (h : Int64) (L : Nat → Int64) : Nat → Int64
  | 0 => h
  | j + 1 => ho_take (ho_hl h L j) (L j)
/-- the hash of numbers and links -/
def ho_hash (N : Nat → Int32) (L : Nat → Int64) (len : Nat) : Int64 := ho_hl (ho_take (ho_take (ho_take (ho_take (ho_take 6148914691236517205 (N 0).toInt64) (N 1).toInt64) (N 2).toInt64) (N 3).toInt64) (nI len).toInt64) L len
