/-! those that wait come, one after the other: this ends, within ten steps -/
noncomputable def ho_wg (K : Nat → ho_M) (n : Nat) (x : ho_O) : Nat := cif (∃ g, ho_find K x.1 n = some g ∧ x = (K g).1) 1 2
theorem ho_wg_le (K : Nat → ho_M) (n : Nat) (x : ho_O) : 1 ≤ ho_wg K n x ∧ ho_wg K n x ≤ 2 := by
  unfold ho_wg
  by_cases h : ∃ g, ho_find K x.1 n = some g ∧ x = (K g).1
  · rw [cif_t h]; omega
  · rw [cif_f h]; omega
def ho_sum (f : ho_O → Nat) : List ho_O → Nat
  | [] => 0
  | x :: l => f x + ho_sum f l
theorem ho_sum_del (f : ho_O → Nat) : ∀ (l : List ho_O) (i : Nat), i < l.length → ho_sum f (l.eraseIdx i) + f (l.getD i ho_O0) = ho_sum f l
  | [], i, h => absurd h (Nat.not_lt_zero i)
  | x :: l, 0, _ => by simp [ho_sum]; omega
  | x :: l, i + 1, h => by
    have := ho_sum_del f l i (by simpa using h)
    simp only [List.eraseIdx_cons_succ, ho_sum, List.getD_cons_succ]
    omega
theorem ho_sum_app (f : ho_O → Nat) (x : ho_O) : ∀ l : List ho_O, ho_sum f (l ++ [x]) = ho_sum f l + f x
  | [] => by simp [ho_sum]
  | y :: l => by
    have := ho_sum_app f x l
    simp only [List.cons_append, ho_sum]
    omega
theorem ho_sum_mono {f g : ho_O → Nat} (h : ∀ x, f x ≤ g x) : ∀ l : List ho_O, ho_sum f l ≤ ho_sum g l
  | [] => Nat.le_refl _
  | x :: l => Nat.add_le_add (h x) (ho_sum_mono h l)
theorem ho_sum_le {f : ho_O → Nat} (h : ∀ x, f x ≤ 2) : ∀ l : List ho_O, ho_sum f l ≤ 2 * l.length
  | [] => Nat.le_refl _
  | x :: l => by
    have := ho_sum_le h l
    have := h x
    simp only [ho_sum, List.length_cons]
    omega
noncomputable def ho_mu (S : ho_V) : Nat := ho_sum (ho_wg S.1 S.2.1) S.2.2.2
theorem ho_mem_get {wt : List ho_O} {i : Nat} (h : i < wt.length) : wt.getD i ho_O0 ∈ wt := by
  rw [List.getD_eq_getElem?_getD, List.getElem?_eq_getElem h]
  exact List.getElem_mem h
theorem ho_step_mu {S : ho_V} (hv : ho_vok S) {i : Nat} (hf : ho_first S i) : ho_mu (ho_step S i) + 1 ≤ ho_mu S := by
  obtain ⟨K, n, hd, wt⟩ := S
  obtain ⟨hi, hl, -⟩ := hf
  obtain ⟨h1, h2, h3⟩ := hv
  dsimp only at hi hl h1 h2 h3
  have hsum := ho_sum_del (ho_wg K n) wt i hi
  have hw := ho_wg_le K n (wt.getD i ho_O0)
  unfold ho_step ho_mu
  dsimp only
  generalize hx : wt.getD i ho_O0 = x at *
  change ho_sum _ _ + 1 ≤ ho_sum (ho_wg K n) wt
  have same : ho_sum (ho_wg K n) (wt.eraseIdx i) + 1 ≤ ho_sum (ho_wg K n) wt := by omega
  cases hfd : ho_find K x.1 n with
  | some g =>
    by_cases c : hb hd g = true
    · rw [ho_c_held hfd c]; exact same
    · by_cases c2 : ho_shape (K g).1
      · by_cases c3 : ho_lh K n hd (K g).1.2.2
        · rw [ho_c_kin hfd c c2 c3]; exact same
        · rw [ho_c_kwait hfd c c2 c3]
          dsimp only
          have hx2 : ho_wg K n x = 2 := by
            unfold ho_wg
            rw [cif_f]
            rintro ⟨g', e1, e2⟩
            rw [hfd] at e1
            cases e1
            rw [← e2] at c3
            exact c3 hl
          have hk1 : ho_wg K n (K g).1 = 1 := by
            unfold ho_wg
            rw [cif_t]
            exact ⟨g, by rw [(ho_find_some hfd).2]; exact hfd, rfl⟩
          have hel : (wt.eraseIdx i).length ≤ 4 := by rw [List.length_eraseIdx_of_lt hi]; omega
          unfold ho_wait
          split
          · omega
          · rw [if_neg (by rw [List.length_append]; simp; omega), ho_sum_app, hk1]
            omega
      · rw [ho_c_kshape hfd c c2]; exact same
  | none =>
    by_cases c2 : ho_shape x
    · by_cases c4 : n < 40 ∧ ho_right K n (ho_cand K n x)
      · rw [ho_c_in hfd c2 hl c4]
        dsimp only
        have hm : ∀ y, ho_wg (ho_put K n (ho_cand K n x)) (n + 1) y ≤ ho_wg K n y := by
          intro y
          by_cases q : ∃ g, ho_find K y.1 n = some g ∧ y = (K g).1
          · obtain ⟨g, q1, q2⟩ := q
            have : ho_wg (ho_put K n (ho_cand K n x)) (n + 1) y = 1 := by
              unfold ho_wg
              rw [cif_t]
              exact ⟨g, ho_find_put_some q1, by rw [ho_put_lt (ho_find_some q1).1]; exact q2⟩
            have := ho_wg_le K n y
            omega
          · have e2 : ho_wg K n y = 2 := by unfold ho_wg; rw [cif_f q]
            have := ho_wg_le (ho_put K n (ho_cand K n x)) (n + 1) y
            omega
        have := ho_sum_mono hm (wt.eraseIdx i)
        omega
      · rw [ho_c_not hfd c2 hl c4]; exact same
    · rw [ho_c_shape hfd c2]; exact same
theorem ho_step_ok {S : ho_V} (hv : ho_vok S) {i : Nat} (hi : i < S.2.2.2.length) : ho_vok (ho_step S i) := by
  unfold ho_step
  refine ho_come1_ok (S := (S.1, S.2.1, S.2.2.1, S.2.2.2.eraseIdx i)) ⟨hv.1, ?_, fun o ho => hv.2.2 o (List.mem_of_mem_eraseIdx ho)⟩ (hv.2.2 _ (ho_mem_get hi))
  have := hv.2.1
  show (S.2.2.2.eraseIdx i).length ≤ 5
  rw [List.length_eraseIdx_of_lt hi]
  omega
theorem ho_idle_or (S : ho_V) : ho_idle S ∨ ∃ i, ho_first S i := by
  by_cases h : ∃ i, i < S.2.2.2.length ∧ ho_lh S.1 S.2.1 S.2.2.1 (S.2.2.2.getD i ho_O0).2.2
  · obtain ⟨i, ⟨h1, h2⟩, h3⟩ := pk_least _ h
    exact Or.inr ⟨i, h1, h2, fun j hj hq => h3 j hj ⟨by omega, hq⟩⟩
  · exact Or.inl (fun j hj hq => h ⟨j, hj, hq⟩)
theorem ho_drain : ∀ (k : Nat) (S : ho_V), ho_vok S → ho_mu S ≤ k → ∃ T, ho_runs k S T
  | 0, S, hv, hm => by
    refine ⟨S, ?_, rfl⟩
    rcases ho_idle_or S with h | ⟨i, h⟩
    · exact h
    · have := ho_step_mu hv h
      omega
  | k + 1, S, hv, hm => by
    rcases ho_idle_or S with h | ⟨i, h⟩
    · exact ⟨S, Or.inl ⟨h, rfl⟩⟩
    · have := ho_step_mu hv h
      obtain ⟨T, hT⟩ := ho_drain k (ho_step S i) (ho_step_ok hv h.1) (by omega)
      exact ⟨T, Or.inr ⟨i, h, hT⟩⟩
theorem ho_drain10 {S : ho_V} (hv : ho_vok S) : ∃ T, ho_runs 10 S T := by
  refine ho_drain 10 S hv ?_
  have := ho_sum_le (f := ho_wg S.1 S.2.1) (fun x => (ho_wg_le _ _ x).2) S.2.2.2
  have := hv.2.1
  unfold ho_mu
  omega
theorem ho_runs_ok : ∀ (k : Nat) {S T : ho_V}, ho_vok S → ho_runs k S T → ho_vok T
  | 0, S, T, hv, h => by rw [h.2]; exact hv
  | k + 1, S, T, hv, h => by
    rcases h with ⟨_, e⟩ | ⟨i, hf, h⟩
    · rw [e]; exact hv
    · exact ho_runs_ok k (ho_step_ok hv hf.1) h
section MP9
variable {dq : ho_O} {so : Int32}
theorem mRep.vok {K : Nat → ho_M} {n : Nat} {hd : Nat → Int64} {wt : Nat → List ho_O} {I : Nat → Nat → Int32} {J : Nat → Nat → Int64} {cn : Int32} {r : Nat} (h : mRep K n hd wt dq I J cn) (hr : r < 4) : ho_vok (K, n, hd r, wt r) := ⟨h.1, (h.2.2.2.1 r hr).1, (h.2.2.2.1 r hr).2.1⟩
theorem pm_c8 {post : Int32 → (Nat → Nat → Int32) → (Nat → Nat → Int64) → Int32 → Int64 → Int32 → Prop} {r : Nat} {ans : Int32} (hr : r < 4) : ∀ (k : Nat) (S T : ho_V), ho_runs k S T → ∃ N, ∀ (K : Nat → ho_M) (n : Nat) (hd : Nat → Int64) (wt : Nat → List ho_O) (I : Nat → Nat → Int32) (J : Nat → Nat → Int64) (cn : Int32) (cm : Int64), S = (K, n, hd r, wt r) → mRep K n hd wt dq I J cn → (∀ I' J' cn' cm', mRep T.1 T.2.1 (va_up hd r T.2.2.1) (va_up wt r T.2.2.2) dq I' J' cn' → post ans I' J' cn' cm' so) → wMcome_8 post N I J cn cm so (nI r) ans 0 := by
  -- nothing ready from i on
  have idle : ∀ (S : ho_V), ho_idle S → ∀ d i, i + d = S.2.2.2.length → ∀ (K : Nat → ho_M) (n : Nat) (hd : Nat → Int64) (wt : Nat → List ho_O) (I : Nat → Nat → Int32) (J : Nat → Nat → Int64) (cn : Int32) (cm : Int64), S = (K, n, hd r, wt r) → mRep K n hd wt dq I J cn → (∀ I' J' cn' cm', mRep K n hd wt dq I' J' cn' → post ans I' J' cn' cm' so) → wMcome_8 post (d + 1) I J cn cm so (nI r) ans (nI i) := by
    intro S hid d
    induction d with
    | zero =>
      intro i hi K n hd wt I J cn cm e hR h
      subst e
      have hl5 := (hR.2.2.2.1 r hr).1
      dsimp only at hi
      rw [wMcome_8_s, tN (show r < 2 ^ 31 by omega), (hR.2.2.2.1 r hr).2.2.1, show i = (wt r).length by omega]
      exact ⟨vp_in_nI hr (by omega), fun _ => h _ _ _ _ hR, fun c => absurd (nI_le (Nat.le_refl _) (by omega)) c⟩
    | succ d ih =>
      intro i hi K n hd wt I J cn cm e hR h
      have hidle := hid
      subst e
      have hl5 := (hR.2.2.2.1 r hr).1
      dsimp only at hi
      rw [wMcome_8_s, tN (show r < 2 ^ 31 by omega), (hR.2.2.2.1 r hr).2.2.1, n6]
      refine ⟨vp_in_nI hr (by omega), fun c => absurd c (nI_ge (by omega) (by omega)), fun _ => pm_load (by omega) ((hR.2.2.2.1 r hr).2.2.2 i (by omega)) (fun I1 J1 f1 m1 => ?_)⟩
      have hR1 := hR.fr f1
      refine pm_linksHeld hR1.2.1 hr m1 ?_
      rw [hR1.2.2.1 r hr]
      refine bI_br (fun _ => ?_) (fun q => absurd q (hidle i (by dsimp only; omega)))
      rw [nI_1]
      exact ih (i + 1) (by dsimp only; omega) K n hd wt I1 J1 cn _ rfl hR1 h
  -- up to the first that is ready
  have scan : ∀ (S T : ho_V) (i0 N : Nat), ho_first S i0 → (∀ (K : Nat → ho_M) (n : Nat) (hd : Nat → Int64) (wt : Nat → List ho_O) (I : Nat → Nat → Int32) (J : Nat → Nat → Int64) (cn : Int32) (cm : Int64), ho_step S i0 = (K, n, hd r, wt r) → mRep K n hd wt dq I J cn → (∀ I' J' cn' cm', mRep T.1 T.2.1 (va_up hd r T.2.2.1) (va_up wt r T.2.2.2) dq I' J' cn' → post ans I' J' cn' cm' so) → wMcome_8 post N I J cn cm so (nI r) ans 0) → ∀ d i, i + d = i0 → ∀ (K : Nat → ho_M) (n : Nat) (hd : Nat → Int64) (wt : Nat → List ho_O) (I : Nat → Nat → Int32) (J : Nat → Nat → Int64) (cn : Int32) (cm : Int64), S = (K, n, hd r, wt r) → mRep K n hd wt dq I J cn → (∀ I' J' cn' cm', mRep T.1 T.2.1 (va_up hd r T.2.2.1) (va_up wt r T.2.2.2) dq I' J' cn' → post ans I' J' cn' cm' so) → wMcome_8 post (N + d + 1) I J cn cm so (nI r) ans (nI i) := by
    intro S T i0 N hfst hnx d
    induction d with
    | zero =>
      intro i hi K n hd wt I J cn cm e hR h
      have hi0 : i = i0 := by omega
      subst hi0
      subst e
      obtain ⟨f1, f2, f3⟩ := hfst
      dsimp only at f1 f2
      have hl5 := (hR.2.2.2.1 r hr).1
      rw [Nat.add_zero, wMcome_8_s, tN (show r < 2 ^ 31 by omega), (hR.2.2.2.1 r hr).2.2.1, n6]
      refine ⟨vp_in_nI hr (by omega), fun c => absurd c (nI_ge f1 (by omega)), fun _ => pm_load (by omega) ((hR.2.2.2.1 r hr).2.2.2 i f1) (fun I1 J1 g1 m1 => ?_)⟩
      have hR1 := hR.fr g1
      refine pm_linksHeld hR1.2.1 hr m1 ?_
      rw [hR1.2.2.1 r hr]
      refine bI_br (fun q => absurd f2 q) (fun _ => ?_)
      refine pm_leave hr (by omega) f1 (hR1.2.2.2.1 r hr).2.2 (fun I2 J2 g2 w2 => ?_)
      have hel : ((wt r).eraseIdx i).length ≤ 5 := by rw [List.length_eraseIdx_of_lt f1]; omega
      have hR2 := hR1.fw hr g2 hel (fun x hx => (hR1.2.2.2.1 r hr).2.1 x (List.mem_of_mem_eraseIdx hx)) w2
      have m2 : mNum (I2 9) (J2 7) ((wt r).getD i ho_O0) := by rw [g2.1 9 (by decide) (by decide), g2.2.1 7 (by decide) (by decide)]; exact m1
      refine pm_arrive hR2 hr m2 rfl (fun I3 J3 cn3 cm3 hR3 => ?_)
      rw [va_up_s] at hR3
      have est : ho_step (K, n, hd r, wt r) i = (ho_come1 (K, n, hd r, (wt r).eraseIdx i) ((wt r).getD i ho_O0)).1 := rfl
      refine hnx _ _ _ _ _ _ _ _ ?_ hR3 (fun I' J' cn' cm' q => h I' J' cn' cm' ?_)
      · rw [est, va_up_s, va_up_s]
      · rw [bx_uu, bx_uu, bx_uu] at q
        exact q
    | succ d ih =>
      intro i hi K n hd wt I J cn cm e hR h
      have hfst' := hfst
      subst e
      obtain ⟨f1, f2, f3⟩ := hfst
      dsimp only at f1 f2
      have hl5 := (hR.2.2.2.1 r hr).1
      rw [show N + (d + 1) + 1 = (N + d + 1) + 1 by omega, wMcome_8_s, tN (show r < 2 ^ 31 by omega), (hR.2.2.2.1 r hr).2.2.1, n6]
      refine ⟨vp_in_nI hr (by omega), fun c => absurd c (nI_ge (by omega) (by omega)), fun _ => pm_load (by omega) ((hR.2.2.2.1 r hr).2.2.2 i (by omega)) (fun I1 J1 g1 m1 => ?_)⟩
      have hR1 := hR.fr g1
      refine pm_linksHeld hR1.2.1 hr m1 ?_
      rw [hR1.2.2.1 r hr]
      refine bI_br (fun _ => ?_) (fun q => absurd q (f3 i (by omega)))
      rw [nI_1]
      exact ih (i + 1) (by omega) K n hd wt I1 J1 cn _ rfl hR1 h
  intro k
  induction k with
  | zero =>
    intro S T hT
    obtain ⟨h1, h2⟩ := hT
    subst h2
    refine ⟨T.2.2.2.length + 1, fun K n hd wt I J cn cm e hR h => ?_⟩
    refine idle T h1 T.2.2.2.length 0 (by omega) K n hd wt I J cn cm e hR (fun I' J' cn' cm' q => h I' J' cn' cm' ?_)
    rw [e]
    dsimp only
    rw [va_up_id, va_up_id]
    exact q
  | succ k ihk =>
    intro S T hT
    rcases hT with ⟨h1, h2⟩ | ⟨i, hf, hT⟩
    · subst h2
      refine ⟨T.2.2.2.length + 1, fun K n hd wt I J cn cm e hR h => ?_⟩
      refine idle T h1 T.2.2.2.length 0 (by omega) K n hd wt I J cn cm e hR (fun I' J' cn' cm' q => h I' J' cn' cm' ?_)
      rw [e]
      dsimp only
      rw [va_up_id, va_up_id]
      exact q
    · obtain ⟨N, hN⟩ := ihk _ _ hT
      exact ⟨N + i + 1, fun K n hd wt I J cn cm e hR h => scan S T i N hf hN i 0 (by omega) K n hd wt I J cn cm e hR h⟩
/-- come: the operation arrives, and then what waited for it; T is what is then -/
theorem pm_come {post : Int32 → (Nat → Nat → Int32) → (Nat → Nat → Int64) → Int32 → Int64 → Int32 → Prop} {K : Nat → ho_M} {n : Nat} {hd : Nat → Int64} {wt : Nat → List ho_O} {I : Nat → Nat → Int32} {J : Nat → Nat → Int64} {cn : Int32} {cm : Int64} {r : Nat} {o : ho_O} {T : ho_V} (hR : mRep K n hd wt dq I J cn) (hr : r < 4) (ho : mNum (I 9) (J 7) o) (hcm : cm = o.1) (hT : ho_runs 10 (ho_come1 (K, n, hd r, wt r) o).1 T) (h : ∀ I' J' cn' cm', mRep T.1 T.2.1 (va_up hd r T.2.2.1) (va_up wt r T.2.2.2) dq I' J' cn' → post (ho_come1 (K, n, hd r, wt r) o).2 I' J' cn' cm' so) : wMcome post I J cn cm so (nI r) := by
  refine pm_arrive hR hr ho hcm (fun I1 J1 cn1 cm1 hR1 => ?_)
  obtain ⟨N, hN⟩ := pm_c8 (post := post) (dq := dq) (so := so) (r := r) (ans := (ho_come1 (K, n, hd r, wt r) o).2) hr 10 _ T hT
  refine ⟨N, hN _ _ _ _ _ _ _ _ ?_ hR1 (fun I' J' cn' cm' q => h I' J' cn' cm' ?_)⟩
  · rw [va_up_s, va_up_s]
  · rw [bx_uu, bx_uu] at q
    exact q
end MP9
