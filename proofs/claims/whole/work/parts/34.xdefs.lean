/-! the class: what lies in the world -/
/-- an operation at a -/
def xO (ad : Nat → Nat) (w : fh_T) (a : Nat) (o : ho_O) : Prop := ∃ la f, w a = some (.inr (5, [.int o.2.1.1, .int o.2.1.2.1, .int o.2.1.2.2.1, .int o.2.1.2.2.2, .ref la, .long o.1])) ∧ w la = some (.inl (2, o.2.2.length, .inr (.inl f))) ∧ (∀ j, j < o.2.2.length → f j = o.2.2.getD j 0) ∧ la ≠ ad 4 ∧ la ≠ ad 6 ∧ o.2.2.length ≤ 4
/-- a known one, of number g, at a -/
def xM (ad : Nat → Nat) (w : fh_T) (a g : Nat) (m : ho_M) : Prop := ∃ oa, w a = some (.inr (7, [.ref oa, .int (nI g), .int (nI m.2.1), .long m.2.2.1, .long m.2.2.2])) ∧ xO ad w oa m.1
/-- a row of known ones, by their numbers -/
def xRow (w : fh_T) (row pl : Nat) (mb : Nat → Nat) (L : List Nat) : Prop := w row = some (.inr (3, [.ref pl, .int (nI L.length)])) ∧ L.length ≤ 40 ∧ ∃ f, w pl = some (.inl (0, 40, .inr (.inr (.inr (.inr f))))) ∧ ∀ k, k < L.length → f k = some (mb (L.getD k 0))
/-- those that wait, at al, kept in the array ea -/
def xL (ad : Nat → Nat) (w : fh_T) (al ea : Nat) (wt : List ho_O) : Prop := ∃ mo, w al = some (.inr (9, [.int mo, .ref ea, .int (nI wt.length)])) ∧ ((wt = [] ∧ w ea = some fh_mark) ∨ ∃ f, w ea = some (.inl (3, 10, .inr (.inr (.inr (.inr f))))) ∧ ∀ k, k < wt.length → ∃ oa, f k = some oa ∧ xO ad w oa (wt.getD k ho_O0))
/-- a draft at d, its links at dl -/
def xD (w : fh_T) (d dl : Nat) (o : ho_O) : Prop := w d = some (.inr (6, [.int o.2.1.1, .int o.2.1.2.1, .int o.2.1.2.2.1, .int o.2.1.2.2.2, .int (nI o.2.2.length), .ref dl])) ∧ o.2.2.length ≤ 4 ∧ ∃ f, w dl = some (.inl (2, 4, .inr (.inl f))) ∧ ∀ j, j < o.2.2.length → f j = o.2.2.getD j 0
/-- the cells that stay as they are -/
def xk (ad : Nat → Nat) (a : Nat) : fh_E → Prop
  | .inr (c, _) => c = 5 ∨ c = 7 ∨ c = 8
  | .inl (c, _) => c = 2 ∧ a ≠ ad 4 ∧ a ≠ ad 6
def xF (ad : Nat → Nat) (w w' : fh_T) : Prop := ∀ a e, w a = some e → xk ad a e → w' a = some e
theorem xF.rf {ad : Nat → Nat} {w : fh_T} : xF ad w w := fun _ _ h _ => h
theorem xF.tr {ad : Nat → Nat} {w w1 w2 : fh_T} (h : xF ad w w1) (h2 : xF ad w1 w2) : xF ad w w2 := fun a e q k => h2 a e (h a e q k) k
theorem xO.fr {ad : Nat → Nat} {w w' : fh_T} {a : Nat} {o : ho_O} (h : xO ad w a o) (hf : xF ad w w') : xO ad w' a o := by
  obtain ⟨la, f, h1, h2, h3, h4, h5, h6⟩ := h
  exact ⟨la, f, hf _ _ h1 (Or.inl rfl), hf _ _ h2 ⟨rfl, h4, h5⟩, h3, h4, h5, h6⟩
theorem xM.fr {ad : Nat → Nat} {w w' : fh_T} {a g : Nat} {m : ho_M} (h : xM ad w a g m) (hf : xF ad w w') : xM ad w' a g m := by
  obtain ⟨oa, h1, h2⟩ := h
  exact ⟨oa, hf _ _ h1 (Or.inr (Or.inl rfl)), h2.fr hf⟩
/-- what the known ones look like from Known -/
def xV (ad mb : Nat → Nat) (K : Nat → ho_M) (n : Nat) (w : fh_T) : Prop := w (ad 1) = some (.inr (2, [.ref (ad 7)])) ∧ xRow w (ad 7) (ad 8) mb (List.range n) ∧ ∀ g, g < n → xM ad w (mb g) g (K g)
theorem range_get {n k : Nat} (h : k < n) : (List.range n).getD k 0 = k := by
  rw [List.getD_eq_getElem?_getD, List.getElem?_range h]; rfl
section XR
variable {ad mb : Nat → Nat} {K : Nat → ho_M} {n : Nat} {w : fh_T}
theorem xV.cells (h : xV ad mb K n w) : n ≤ 40 ∧ w (ad 1) = some (.inr (2, [.ref (ad 7)])) ∧ w (ad 7) = some (.inr (3, [.ref (ad 8), .int (nI n)])) ∧ ∃ f, w (ad 8) = some (.inl (0, 40, .inr (.inr (.inr (.inr f))))) ∧ ∀ k, k < n → f k = some (mb k) := by
  obtain ⟨h1, ⟨h2, h3, f, h4, h5⟩, h6⟩ := h
  rw [List.length_range] at h2 h3 h5
  exact ⟨h3, h1, h2, f, h4, fun k hk => by rw [h5 k hk, range_get hk]⟩
theorem kx_cont {post : Int32 → fh_T → Prop} {x : Int64} {g : Nat} (hg : g < 64) (h : post (bI (hb x g = true)) w) : wKXW_contains post w x (nI g) := by
  unfold wKXW_contains
  rw [lg_cmp_eq, hb_cls hg]
  cases q : hb x g with
  | false =>
    rw [q, bI_f (by decide)] at h
    exact ⟨fun _ => h, fun c => absurd rfl c⟩
  | true =>
    rw [q, bI_t rfl] at h
    exact ⟨fun c => (by cases c), fun _ => h⟩
theorem kx_find2 {post : Option Nat → fh_T → Prop} {x : Int64} (hV : xV ad mb K n w) (hd : ho_dis K n) (h : post ((ho_find K x n).map mb) w) : ∀ d k, k + d = n → (∀ i, i < k → (K i).1.1 ≠ x) → wKXKn_find_2 post (d + 1) w (ad 1) x (nI k) := by
  obtain ⟨hn, c1, c7, f, c8, hf⟩ := hV.cells
  intro d
  induction d with
  | zero =>
    intro k e hno
    have e : k = n := by omega
    subst e
    rw [wKXKn_find_2_s]
    rw [ho_find_no hno] at h
    exact ⟨_, ⟨_, c1, rfl⟩, _, ⟨_, c7, rfl⟩, fun _ => h, fun c => absurd (nI_le (Nat.le_refl _) (by omega)) c⟩
  | succ d ih =>
    intro k e hno
    have hk : k < n := by omega
    obtain ⟨oa, m1, la, lf, m2, -⟩ := hV.2.2 k hk
    have vk : vp_in (nI k) 40 := vp_in_nI (by omega) (by omega)
    have fk : f (Int32.toNatClampNeg (nI k)) = some (mb k) := by rw [tN (by omega)]; exact hf k hk
    rw [wKXKn_find_2_s]
    refine ⟨_, ⟨_, c1, rfl⟩, _, ⟨_, c7, rfl⟩, fun c => absurd c (nI_ge hk (by omega)), fun _ => ⟨_, ⟨_, c1, rfl⟩, _, ⟨_, c7, rfl⟩, _, _, _, c8, vk, fk, _, ⟨_, m1, rfl⟩, _, ⟨_, m2, rfl⟩, ?_⟩⟩
    rw [lg_cmp_eq]
    refine ⟨fun q => ?_, fun q => ⟨_, ⟨_, c1, rfl⟩, _, ⟨_, c7, rfl⟩, _, _, _, c8, vk, fk, ?_⟩⟩
    · rw [nI_1]
      refine ih (k + 1) (by omega) (fun i hi => ?_)
      by_cases e2 : i = k
      · rw [e2]; exact q
      · exact hno i (by omega)
    · rw [ho_find_of hd hk q] at h
      exact h
theorem kx_find {post : Option Nat → fh_T → Prop} {x : Int64} (hV : xV ad mb K n w) (hd : ho_dis K n) (h : post ((ho_find K x n).map mb) w) : wKXKn_find post w (ad 1) x := ⟨_, kx_find2 hV hd h n 0 (by omega) (fun i hi => by omega)⟩
/-- the replica at re holds hs; it holds what x names, or not -/
theorem kx_holds {post : Int32 → fh_T → Prop} {re g : Nat} {a : Nat} {hs : Int64} {m : ho_M} {v0 v1 v2 v3 : Value} (hr : w re = some (.inr (4, [v0, v1, v2, v3, .long hs]))) (hm : xM ad w a g m) (hg : g < 64) (h : post (bI (hb hs g = true)) w) : wKXRe_holds post w re a := by
  obtain ⟨oa, m1, -⟩ := hm
  refine ⟨_, ⟨_, hr, rfl⟩, _, ⟨_, m1, rfl⟩, kx_cont hg ?_⟩
  by_cases q : hb hs g = true
  · rw [bI_t q] at h ⊢
    exact ⟨fun c => absurd c (by decide), fun _ => h⟩
  · rw [bI_f q] at h ⊢
    exact ⟨fun _ => h, fun c => absurd rfl c⟩
theorem kx_hl2 {post : Int32 → fh_T → Prop} {re a : Nat} {hs : Int64} {o : ho_O} {v1 v2 v3 : Value} (hV : xV ad mb K n w) (hd : ho_dis K n) (hr : w re = some (.inr (4, [.ref (ad 1), v1, v2, v3, .long hs]))) (ho : xO ad w a o) (h : post (bI (ho_lh K n hs o.2.2)) w) : ∀ d j, j + d = o.2.2.length → (∀ i, i < j → ho_has K n hs (o.2.2.getD i 0) = true) → wKXRe_holdsLinks_2 post (d + 1) w re a (nI j) := by
  obtain ⟨la, lf, o1, o2, o3, -, -, o4⟩ := ho
  obtain ⟨hn, c1, c7, f, c8, hf⟩ := hV.cells
  intro d
  induction d with
  | zero =>
    intro j e hall
    have e : j = o.2.2.length := by omega
    subst e
    rw [wKXRe_holdsLinks_2_s]
    rw [bI_t (P := ho_lh K n hs o.2.2) hall] at h
    exact ⟨_, ⟨_, o1, rfl⟩, _, _, o2, fun _ => h, fun c => absurd (nI_le (Nat.le_refl _) (by omega)) c⟩
  | succ d ih =>
    intro j e hall
    have hj : j < o.2.2.length := by omega
    have fj : lf (Int32.toNatClampNeg (nI j)) = o.2.2.getD j 0 := by rw [tN (by omega)]; exact o3 j hj
    have no : ¬ ho_has K n hs (o.2.2.getD j 0) = true → post 0 w := fun q => by
      rw [bI_f (P := ho_lh K n hs o.2.2) (fun z => q (z j hj))] at h
      exact h
    have yes : ho_has K n hs (o.2.2.getD j 0) = true → wKXRe_holdsLinks_2 post (d + 1) w re a (nI j + 1) := fun q => by
      rw [nI_1]
      refine ih (j + 1) (by omega) (fun i hi => ?_)
      by_cases e2 : i = j
      · rw [e2]; exact q
      · exact hall i (by omega)
    rw [wKXRe_holdsLinks_2_s]
    refine ⟨_, ⟨_, o1, rfl⟩, _, _, o2, fun c => absurd c (nI_ge hj (by omega)), fun _ => ⟨_, ⟨_, hr, rfl⟩, _, ⟨_, o1, rfl⟩, _, _, o2, vp_in_nI hj (by omega), _, c1, kx_find hV hd ?_⟩⟩
    rw [fj]
    cases q : ho_find K (o.2.2.getD j 0) n with
    | none =>
      have q2 : ¬ ho_has K n hs (o.2.2.getD j 0) = true := by unfold ho_has; rw [q]; exact fun z => nomatch z
      exact ⟨fun _ => ⟨_, hr, fun c => absurd rfl c, fun _ => no q2⟩, fun y c => by cases c⟩
    | some g =>
      have hg := (ho_find_some q).1
      have q2 : ho_has K n hs (o.2.2.getD j 0) = hb hs g := by unfold ho_has; rw [q]
      rw [q2] at no yes
      refine ⟨fun c => (by cases c), fun y c => ?_⟩
      cases c
      exact ⟨_, hr, kx_holds hr (hV.2.2 g hg) (by omega) (bI_nr yes no)⟩
theorem kx_holdsLinks {post : Int32 → fh_T → Prop} {re a : Nat} {hs : Int64} {o : ho_O} {v1 v2 v3 : Value} (hV : xV ad mb K n w) (hd : ho_dis K n) (hr : w re = some (.inr (4, [.ref (ad 1), v1, v2, v3, .long hs]))) (ho : xO ad w a o) (h : post (bI (ho_lh K n hs o.2.2)) w) : wKXRe_holdsLinks post w re a := ⟨_, kx_hl2 hV hd hr ho h _ 0 (Nat.zero_add _) (fun i hi => by omega)⟩
theorem kx_grow2 {post : Int32 → fh_T → Prop} {a : Nat} {o : ho_O} (ho : xO ad w a o) (h : post (bI (ho_grow o.2.2)) w) : ∀ d j, 1 ≤ j → (j + d = o.2.2.length ∨ (d = 0 ∧ o.2.2.length ≤ j)) → (∀ i, i + 1 < j → o.2.2.getD i 0 < o.2.2.getD (i + 1) 0) → wKXOp_linksGrow_2 post (d + 1) w a (nI j) ∨ 5 < j := by
  obtain ⟨la, lf, o1, o2, o3, -, -, o4⟩ := ho
  intro d
  induction d with
  | zero =>
    intro j h1 e hall
    by_cases h5 : 5 < j
    · exact Or.inr h5
    · left
      rw [wKXOp_linksGrow_2_s]
      rw [bI_t (P := ho_grow o.2.2) (fun i hi => hall i (by omega))] at h
      exact ⟨_, ⟨_, o1, rfl⟩, _, _, o2, fun _ => h, fun c => absurd (nI_le (by omega) (by omega)) c⟩
  | succ d ih =>
    intro j h1 e hall
    have hj : j < o.2.2.length := by omega
    left
    obtain ⟨i, rfl⟩ : ∃ i, j = i + 1 := ⟨j - 1, by omega⟩
    rw [wKXOp_linksGrow_2_s, nI_pred]
    refine ⟨_, ⟨_, o1, rfl⟩, _, _, o2, fun c => absurd c (nI_ge hj (by omega)), fun _ => ⟨_, ⟨_, o1, rfl⟩, _, _, o2, vp_in_nI (by omega) (by omega), _, ⟨_, o1, rfl⟩, _, _, o2, vp_in_nI hj (by omega), ?_⟩⟩
    rw [lg_cmp_lt, tN (show i < 2 ^ 31 by omega), tN (show i + 1 < 2 ^ 31 by omega), o3 i (by omega), o3 (i + 1) hj]
    refine ⟨fun q => ?_, fun q => ?_⟩
    · rw [nI_1]
      rcases ih (i + 1 + 1) (by omega) (Or.inl (by omega)) (fun k hk => by
        by_cases e2 : k = i
        · rw [e2]; exact q
        · exact hall k (by omega)) with z | z
      · exact z
      · omega
    · rw [bI_f (P := ho_grow o.2.2) (fun z => q (z i hj))] at h
      exact h
theorem kx_linksGrow {post : Int32 → fh_T → Prop} {a : Nat} {o : ho_O} (ho : xO ad w a o) (h : post (bI (ho_grow o.2.2)) w) : wKXOp_linksGrow post w a := by
  rcases kx_grow2 ho h (o.2.2.length - 1) 1 (by omega) (by omega) (fun i hi => by omega) with z | z
  · exact ⟨_, z⟩
  · omega
theorem kx_inShape {post : Int32 → fh_T → Prop} {a : Nat} {o : ho_O} (ho : xO ad w a o) (h : post (bI (ho_shape o)) w) : wKXOp_isInShape post w a := by
  have ho' := ho
  obtain ⟨la, lf, o1, o2, o3, -, -, o4⟩ := ho'
  have no : ¬ ho_shape o → post 0 w := fun q => by rw [bI_f q] at h; exact h
  have yes : ho_shape o → post 1 w := fun q => by rw [bI_t q] at h; exact h
  refine ⟨_, ⟨_, o1, rfl⟩, fun q => no (fun z => absurd q (Int32.not_lt.mpr z.1)), fun a1 => ⟨_, ⟨_, o1, rfl⟩, fun q => no (fun z => absurd z.2.1 (Int32.not_lt.mpr q)), fun a2 => ⟨_, ⟨_, o1, rfl⟩, fun q => no (fun z => absurd q (Int32.not_lt.mpr z.2.2.1)), fun a3 => ⟨_, ⟨_, o1, rfl⟩, fun q => no (fun z => absurd q (Int32.not_lt.mpr z.2.2.2.1)), fun a4 => ⟨_, ⟨_, o1, rfl⟩, fun q => no (fun z => absurd q (Int32.not_lt.mpr z.2.2.2.2.1)), fun a5 => ⟨_, ⟨_, o1, rfl⟩, fun q => no (fun z => absurd z.2.2.2.2.2.1 (Int32.not_lt.mpr q)), fun a6 => ⟨_, o1, kx_linksGrow ho (bI_br (fun q => no (fun z => q z.2.2.2.2.2.2)) (fun q => yes ⟨Int32.not_lt.mp a1, Int32.not_le.mp a2, Int32.not_lt.mp a3, Int32.not_lt.mp a4, Int32.not_lt.mp a5, Int32.not_le.mp a6, q⟩))⟩⟩⟩⟩⟩⟩⟩
theorem kx_isFull {post : Int32 → fh_T → Prop} (hV : xV ad mb K n w) (h : post (bI (¬ n < 40)) w) : wKXKn_isFull post w (ad 1) := by
  obtain ⟨hn, c1, c7, f, c8, hf⟩ := hV.cells
  refine ⟨_, ⟨_, c1, rfl⟩, _, ⟨_, c7, rfl⟩, ?_⟩
  rw [show (40 : Int32) = nI 40 from rfl, nI_ltI (by omega) (by omega)]
  refine ⟨fun q => ?_, fun q => ?_⟩
  · rw [bI_f (fun z => z q)] at h; exact h
  · rw [bI_t q] at h; exact h
theorem kx_isOf {post : Int32 → fh_T → Prop} {a : Nat} {o : ho_O} {k key : Int32} (ho : xO ad w a o) (h : post (bI (o.2.1.2.1 = k ∧ o.2.1.2.2.1 = key)) w) : wKXOp_isOf post w a k key := by
  obtain ⟨la, lf, o1, -⟩ := ho
  refine ⟨_, ⟨_, o1, rfl⟩, fun q => ?_, fun q => ⟨_, ⟨_, o1, rfl⟩, fun q2 => ?_, fun q2 => ?_⟩⟩
  · rw [bI_f (fun z => q z.1)] at h; exact h
  · rw [bI_f (fun z => q2 z.2)] at h; exact h
  · rw [bI_t ⟨q, q2⟩] at h; exact h
theorem kx_lock {post : Int32 → fh_T → Prop} {a b g g2 : Nat} {m : ho_M} (hg : g < 64) (ha : xM ad w a g (K g)) (hb' : xM ad w b g2 m) (h : post (bI (ho_lock K g m)) w) : wKXKn_isLockAgainst post w a b := by
  obtain ⟨oa, a1, aO⟩ := ha
  obtain ⟨ob, b1, bO⟩ := hb'
  have aO' := aO
  have bO' := bO
  obtain ⟨la, lf, o1, -⟩ := aO'
  obtain ⟨lb, lg, o2, -⟩ := bO'
  have no : ¬ ho_lock K g m → post 0 w := fun q => by rw [bI_f q] at h; exact h
  refine ⟨_, ⟨_, b1, rfl⟩, _, ⟨_, a1, rfl⟩, kx_cont hg (bI_br (fun q => no (fun z => q z.1)) (fun q => ⟨_, ⟨_, a1, rfl⟩, _, ⟨_, b1, rfl⟩, _, ⟨_, o2, rfl⟩, _, o1, kx_isOf aO (bI_br (fun q2 => no (fun z => q2 ⟨z.2.1, z.2.2.1⟩)) (fun q2 => ⟨_, ⟨_, a1, rfl⟩, _, ⟨_, o1, rfl⟩, _, ⟨_, b1, rfl⟩, _, ⟨_, o2, rfl⟩, fun q3 => no (fun z => z.2.2.2 q3), fun q3 => ?_⟩))⟩))⟩
  rw [bI_t (P := ho_lock K g m) ⟨q, q2.1, q2.2, q3⟩] at h
  exact h
theorem kx_freed2 {post : Int32 → fh_T → Prop} {b g g2 : Nat} {m : ho_M} (hV : xV ad mb K n w) (hg : g < n) (hb' : xM ad w b g2 m) (h : post (bI (ho_freed K n g m)) w) : ∀ d k, k + d = n → (∀ i, i < k → ¬ (hb m.2.2.2 i = true ∧ (K i).1.2.1.2.1 = 3 ∧ (K i).1.2.1.2.2.1 = (K g).1.2.1.2.2.1 ∧ (K i).1.2.1.1 = (K g).1.2.1.1 ∧ hb (K i).2.2.2 g = true)) → wKXKn_isFreed_2 post (d + 1) w (ad 1) (mb g) b (nI k) := by
  obtain ⟨hn, c1, c7, f, c8, hf⟩ := hV.cells
  obtain ⟨oa, a1, aO⟩ := hV.2.2 g hg
  obtain ⟨ob, b1, bO⟩ := hb'
  obtain ⟨la, lf, o1, -⟩ := aO
  intro d
  induction d with
  | zero =>
    intro k e hno
    have e : k = n := by omega
    subst e
    rw [wKXKn_isFreed_2_s]
    rw [bI_f (P := ho_freed K k g m) (fun ⟨i, hi, z⟩ => hno i hi z)] at h
    exact ⟨_, ⟨_, c1, rfl⟩, _, ⟨_, c7, rfl⟩, fun _ => h, fun c => absurd (nI_le (Nat.le_refl _) (by omega)) c⟩
  | succ d ih =>
    intro k e hno
    have hk : k < n := by omega
    obtain ⟨oc, m1, mO⟩ := hV.2.2 k hk
    have mO' := mO
    obtain ⟨lc, lh, o3, -⟩ := mO'
    have next : ¬ (hb m.2.2.2 k = true ∧ (K k).1.2.1.2.1 = 3 ∧ (K k).1.2.1.2.2.1 = (K g).1.2.1.2.2.1 ∧ (K k).1.2.1.1 = (K g).1.2.1.1 ∧ hb (K k).2.2.2 g = true) → wKXKn_isFreed_2 post (d + 1) w (ad 1) (mb g) b (nI k + 1) := fun q => by
      rw [nI_1]
      refine ih (k + 1) (by omega) (fun i hi => ?_)
      by_cases e2 : i = k
      · rw [e2]; exact q
      · exact hno i (by omega)
    rw [wKXKn_isFreed_2_s]
    refine ⟨_, ⟨_, c1, rfl⟩, _, ⟨_, c7, rfl⟩, fun c => absurd c (nI_ge hk (by omega)), fun _ => ⟨_, ⟨_, c1, rfl⟩, _, ⟨_, c7, rfl⟩, _, _, _, c8, vp_in_nI (by omega) (by omega), by rw [tN (by omega)]; exact hf k hk, _, ⟨_, b1, rfl⟩, kx_cont (by omega) (bI_br (fun q => next (fun z => q z.1)) (fun q => ⟨_, ⟨_, m1, rfl⟩, _, ⟨_, a1, rfl⟩, _, ⟨_, o1, rfl⟩, _, o3, kx_isOf mO (bI_br (fun q2 => next (fun z => q2 ⟨z.2.1, z.2.2.1⟩)) (fun q2 => ⟨_, ⟨_, m1, rfl⟩, _, ⟨_, o3, rfl⟩, _, ⟨_, a1, rfl⟩, _, ⟨_, o1, rfl⟩, fun q3 => next (fun z => q3 z.2.2.2.1), fun q3 => ⟨_, ⟨_, m1, rfl⟩, _, ⟨_, a1, rfl⟩, kx_cont (by omega) (bI_br (fun q4 => next (fun z => q4 z.2.2.2.2)) (fun q4 => ?_))⟩⟩))⟩))⟩⟩
    rw [bI_t (P := ho_freed K n g m) ⟨k, hk, q, q2.1, q2.2, q3, q4⟩] at h
    exact h
theorem kx_freed {post : Int32 → fh_T → Prop} {b g g2 : Nat} {m : ho_M} (hV : xV ad mb K n w) (hg : g < n) (hb' : xM ad w b g2 m) (h : post (bI (ho_freed K n g m)) w) : wKXKn_isFreed post w (ad 1) (mb g) b := ⟨_, kx_freed2 hV hg hb' h n 0 (by omega) (fun i hi => by omega)⟩
theorem kx_right2 {post : Int32 → fh_T → Prop} {b g2 : Nat} {m : ho_M} (hV : xV ad mb K n w) (hb' : xM ad w b g2 m) (h : post (bI (ho_right K n m)) w) : ∀ d k, k + d = n → (∀ i, i < k → ¬ (hb m.2.2.1 i = true ∧ (K i).2.2.2 &&& m.2.2.1 ≠ 0) ∧ ¬ (ho_lock K i m ∧ ¬ ho_freed K n i m)) → wKXKn_isRight_2 post (d + 1) w (ad 1) b (nI k) := by
  obtain ⟨hn, c1, c7, f, c8, hf⟩ := hV.cells
  have hb2 := hb'
  obtain ⟨ob, b1, bO⟩ := hb2
  intro d
  induction d with
  | zero =>
    intro k e hall
    have e : k = n := by omega
    subst e
    rw [wKXKn_isRight_2_s]
    rw [bI_t (P := ho_right K k m) hall] at h
    exact ⟨_, ⟨_, c1, rfl⟩, _, ⟨_, c7, rfl⟩, fun _ => h, fun c => absurd (nI_le (Nat.le_refl _) (by omega)) c⟩
  | succ d ih =>
    intro k e hall
    have hk : k < n := by omega
    obtain ⟨oc, m1, mO⟩ := hV.2.2 k hk
    have no : ¬ (¬ (hb m.2.2.1 k = true ∧ (K k).2.2.2 &&& m.2.2.1 ≠ 0) ∧ ¬ (ho_lock K k m ∧ ¬ ho_freed K n k m)) → post 0 w := fun q => by
      rw [bI_f (P := ho_right K n m) (fun z => q (z k hk))] at h
      exact h
    have next : (¬ (hb m.2.2.1 k = true ∧ (K k).2.2.2 &&& m.2.2.1 ≠ 0) ∧ ¬ (ho_lock K k m ∧ ¬ ho_freed K n k m)) → wKXKn_isRight_2 post (d + 1) w (ad 1) b (nI k + 1) := fun q => by
      rw [nI_1]
      refine ih (k + 1) (by omega) (fun i hi => ?_)
      by_cases e2 : i = k
      · rw [e2]; exact q
      · exact hall i (by omega)
    have g52 : ¬ (hb m.2.2.1 k = true ∧ (K k).2.2.2 &&& m.2.2.1 ≠ 0) → wKXKn_isRight_52 post (wKXKn_isRight_2 post (d + 1)) w (ad 1) b (nI k) (mb k) := fun q => by
      refine ⟨fun c => absurd rfl c, fun _ => kx_lock (by omega) (hV.2.2 k hk) hb' (bI_br (fun q2 => next ⟨q, fun z => q2 z.1⟩) (fun q2 => ⟨_, c1, kx_freed hV hk hb' (bI_nr (fun q3 => next ⟨q, fun z => z.2 q3⟩) (fun q3 => no (fun z => z.2 ⟨q2, q3⟩)))⟩))⟩
    rw [wKXKn_isRight_2_s]
    refine ⟨_, ⟨_, c1, rfl⟩, _, ⟨_, c7, rfl⟩, fun c => absurd c (nI_ge hk (by omega)), fun _ => ⟨_, ⟨_, c1, rfl⟩, _, ⟨_, c7, rfl⟩, _, _, _, c8, vp_in_nI (by omega) (by omega), by rw [tN (by omega)]; exact hf k hk, _, ⟨_, b1, rfl⟩, kx_cont (by omega) (bI_br (fun q => g52 (fun z => q z.1)) (fun q => ⟨_, ⟨_, m1, rfl⟩, _, ⟨_, b1, rfl⟩, ?_⟩))⟩⟩
    rw [lg_cmp_eq]
    exact ⟨fun q2 => g52 (fun z => z.2 q2), fun q2 => ⟨fun _ => no (fun z => z.1 ⟨q, q2⟩), fun c => absurd c (by decide)⟩⟩
theorem kx_isRight {post : Int32 → fh_T → Prop} {b g2 : Nat} {m : ho_M} (hV : xV ad mb K n w) (hb' : xM ad w b g2 m) (h : post (bI (ho_right K n m)) w) : wKXKn_isRight post w (ad 1) b := ⟨_, kx_right2 hV hb' h n 0 (by omega) (fun i hi => by omega)⟩
end XR
