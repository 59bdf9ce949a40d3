/-! the class: the calls -/
section XQ
variable {ad mb : Nat → Nat} {K : Nat → ho_M} {n : Nat} {hd : Nat → Int64} {wt : Nat → List ho_O} {dr : Nat → ho_O} {w w' : fh_T} {r : Nat}
theorem xR.web (hR : xR ad mb K n hd wt dr w) : w (ad 0) = some (.inr (1, [.ref (ad 1), .ref (ad 2), .ref (ad 3), .ref (ad 5)])) := by
  obtain ⟨ea, Ls, ⟨-, -, c0, -⟩, -⟩ := hR
  exact c0
theorem xR.rs (hR : xR ad mb K n hd wt dr w) : ∃ f, w (ad 2) = some (.inl (1, 4, .inr (.inr (.inr (.inr f))))) ∧ ∀ r, r < 4 → f r = some (ad (25 + r)) := by
  obtain ⟨ea, Ls, ⟨-, -, -, -, c, -⟩, -⟩ := hR
  exact c
theorem xR.drf (hR : xR ad mb K n hd wt dr w) {d : Nat} (hd' : d < 2) : xD w (ad (3 + 2 * d)) (ad (4 + 2 * d)) (dr d) := by
  obtain ⟨ea, Ls, ⟨-, -, -, -, -, c, -⟩, -⟩ := hR
  exact c d hd'
theorem xR.d46 (hR : xR ad mb K n hd wt dr w) : w (ad 4) ≠ none ∧ w (ad 6) ≠ none := by
  obtain ⟨-, -, f, c, -⟩ := hR.drf (show 0 < 2 by omega)
  obtain ⟨-, -, f2, c2, -⟩ := hR.drf (show 1 < 2 by omega)
  have c : w (ad 4) = _ := c
  have c2 : w (ad 6) = _ := c2
  rw [c, c2]
  exact ⟨fun z => (by cases z), fun z => (by cases z)⟩
theorem xR.dft (hR : xR ad mb K n hd wt dr w) {d : Nat} (hd' : d < 2) {o : ho_O} (hfr : ∀ a, a ≠ ad (3 + 2 * d) → a ≠ ad (4 + 2 * d) → w' a = w a) (hD : xD w' (ad (3 + 2 * d)) (ad (4 + 2 * d)) o) : xF ad w w' ∧ xR ad mb K n hd wt (va_up dr d o) w' := by
  obtain ⟨ea, Ls, hW, h⟩ := hR
  obtain ⟨h1, h2⟩ := hW.dft hd' hfr hD
  exact ⟨h1, ea, Ls, h2, h⟩
theorem xR.as (hR : xR ad mb K n hd wt dr w) {q : Nat} {fs : List Value} {e : fh_E} (hq : w q = some (.inr (8, fs))) (e2 : w' = fh_up w q e) : xR ad mb K n hd wt dr w' := by
  obtain ⟨ea, Ls, hW, h⟩ := hR
  exact ⟨ea, Ls, hW.as hq e2, h⟩
/-- the order and the heads of a replica, as lists -/
theorem xR.ex (hR : xR ad mb K n hd wt dr w) (hr : r < 4) : (∃ L, ho_srt True K (fun g => hb (hd r) g = true) L) ∧ ∃ L, ho_srt False K (fun g => hb (ho_hds K n (hd r)) g = true) L := by
  obtain ⟨ea, Ls, -, -, -, -, h⟩ := hR
  exact ⟨⟨_, (h r hr).2.1⟩, ⟨_, (h r hr).2.2⟩⟩
theorem xR.ord (hR : xR ad mb K n hd wt dr w) (hr : r < 4) {L : List Nat} (hL : ho_srt True K (fun g => hb (hd r) g = true) L) : xRow w (ad (9 + 4 * r)) (ad (10 + 4 * r)) mb L ∧ ∀ g, g ∈ L → g < n := by
  obtain ⟨ea, Ls, ⟨-, -, -, -, -, -, cr, -, -, -, clt⟩, -, -, -, h⟩ := hR
  have e := srt_uniq hL (h r hr).2.1
  have := cr (1 + 2 * r) (by omega)
  rw [show 7 + 2 * (1 + 2 * r) = 9 + 4 * r by omega, show 8 + 2 * (1 + 2 * r) = 10 + 4 * r by omega] at this
  rw [e]
  exact ⟨this, clt _ (by omega)⟩
theorem xR.hds (hR : xR ad mb K n hd wt dr w) (hr : r < 4) {L : List Nat} (hL : ho_srt False K (fun g => hb (ho_hds K n (hd r)) g = true) L) : xRow w (ad (11 + 4 * r)) (ad (12 + 4 * r)) mb L ∧ ∀ g, g ∈ L → g < n := by
  obtain ⟨ea, Ls, ⟨-, -, -, -, -, -, cr, -, -, -, clt⟩, -, -, -, h⟩ := hR
  have e := srt_uniq hL (h r hr).2.2
  have := cr (2 + 2 * r) (by omega)
  rw [show 7 + 2 * (2 + 2 * r) = 11 + 4 * r by omega, show 8 + 2 * (2 + 2 * r) = 12 + 4 * r by omega] at this
  rw [e]
  exact ⟨this, clt _ (by omega)⟩
theorem kx_rep {post : Option Nat → fh_T → Prop} (hR : xR ad mb K n hd wt dr w) (hr : r < 4) (h : post (some (ad (25 + r))) w) : wKXW_replicaAt post w (ad 0) (nI r) := by
  obtain ⟨f, c2, hf⟩ := hR.rs
  refine ⟨fun c => absurd c (nI_pos (by omega)), fun _ => ⟨fun _ => ⟨_, ⟨_, hR.web, rfl⟩, _, _, _, c2, vp_in_nI hr (by omega), by rw [tN (by omega)]; exact hf r hr, h⟩, fun c => absurd ?_ c⟩⟩
  exact nI_lt (b := 4) hr (by decide)
theorem kx_repN {post : Option Nat → fh_T → Prop} {x : Int32} (c : ∀ k : Nat, k < 4 → ¬ x = nI k) (h : post none w) : wKXW_replicaAt post w (ad 0) x := by
  refine ⟨fun _ => h, fun c1 => ⟨fun c2 => ?_, fun _ => h⟩⟩
  obtain ⟨k, hk, e⟩ := nI_of c1
  subst e
  have hk4 := (nI_ltI (b := 4) hk (by decide)).mp c2
  exact absurd rfl (c k hk4)
theorem kx_headHash {post : Int64 → fh_T → Prop} {L : List Nat} {x : Int32} (hR : xR ad mb K n hd wt dr w) (hr : r < 4) (hL : ho_srt False K (fun g => hb (ho_hds K n (hd r)) g = true) L) (h0 : (x < 0 ∨ ¬ x < nI L.length) → post 0 w) (h1 : ∀ k, k < L.length → x = nI k → post (K (L.getD k 0)).1.1 w) : wKXW_headHash post w (ad (25 + r)) x := by
  obtain ⟨rw1, hlt⟩ := hR.hds hr hL
  refine ⟨_, ⟨_, hR.re hr, rfl⟩, _, rw1.1, kx_at rw1 (fun c => ⟨fun _ => h0 c, fun y z => by cases z⟩) (fun k hk e => ⟨fun z => (by cases z), fun y z => ?_⟩)⟩
  cases z
  obtain ⟨oa, m1, la, lf, o1, -⟩ := hR.m (hlt _ (getD_mem hk))
  exact ⟨_, ⟨_, m1, rfl⟩, _, ⟨_, o1, rfl⟩, h1 k hk e⟩
theorem kx_headAt {post : Int64 → fh_T → Prop} {L : List Nat} {x : Int32} (hR : xR ad mb K n hd wt dr w) (hr : r < 4) (hL : ho_srt False K (fun g => hb (ho_hds K n (hd r)) g = true) L) (h0 : (x < 0 ∨ ¬ x < nI L.length) → post 0 w) (h1 : ∀ k, k < L.length → x = nI k → post (K (L.getD k 0)).1.1 w) : wKXW_headAt post w (ad 0) (nI r) x := by
  refine ⟨_, hR.web, kx_rep hR hr ⟨fun z => (by cases z), fun y z => ?_⟩⟩
  cases z
  exact kx_headHash hR hr hL h0 h1
theorem kx_held {post : Int32 → fh_T → Prop} {L : List Nat} (hR : xR ad mb K n hd wt dr w) (hr : r < 4) (hL : ho_srt True K (fun g => hb (hd r) g = true) L) (h : post (nI L.length) w) : wKXW_held post w (ad 0) (nI r) := by
  obtain ⟨rw1, hlt⟩ := hR.ord hr hL
  refine ⟨_, hR.web, kx_rep hR hr ⟨fun z => (by cases z), fun y z => ?_⟩⟩
  cases z
  exact ⟨_, ⟨_, hR.re hr, rfl⟩, _, ⟨_, rw1.1, rfl⟩, h⟩
theorem kx_heads {post : Int32 → fh_T → Prop} {L : List Nat} (hR : xR ad mb K n hd wt dr w) (hr : r < 4) (hL : ho_srt False K (fun g => hb (ho_hds K n (hd r)) g = true) L) (h : post (nI L.length) w) : wKXW_heads post w (ad 0) (nI r) := by
  obtain ⟨rw1, hlt⟩ := hR.hds hr hL
  refine ⟨_, hR.web, kx_rep hR hr ⟨fun z => (by cases z), fun y z => ?_⟩⟩
  cases z
  exact ⟨_, ⟨_, hR.re hr, rfl⟩, _, ⟨_, rw1.1, rfl⟩, h⟩
theorem kx_waiting {post : Int32 → fh_T → Prop} (hR : xR ad mb K n hd wt dr w) (hr : r < 4) (h : post (nI (wt r).length) w) : wKXW_waiting post w (ad 0) (nI r) := by
  obtain ⟨⟨e, hL⟩, -⟩ := hR.ls hr
  obtain ⟨mo, l1, -⟩ := id hL
  refine ⟨_, hR.web, kx_rep hR hr ⟨fun z => (by cases z), fun y z => ?_⟩⟩
  cases z
  exact ⟨_, ⟨_, hR.re hr, rfl⟩, _, l1, kx_size hL h⟩
theorem kx_drop {post : Int32 → fh_T → Prop} (hR : xR ad mb K n hd wt dr w) (hr : r < 4) (h : ∀ w', xR ad mb K n hd (va_up wt r []) dr w' → post (nI (wt r).length) w') : wKXW_drop post w (ad 0) (nI r) := by
  obtain ⟨ea, Ls, hW, h0, hok, hwt, hall⟩ := id hR
  obtain ⟨-, -, -, -, -, -, -, -, cl, -⟩ := id hW
  have hL := cl r hr
  obtain ⟨mo, l1, -⟩ := id hL
  have hl5 := (hwt r hr).1
  refine ⟨_, hR.web, kx_rep hR hr ⟨fun z => (by cases z), fun y z => ?_⟩⟩
  cases z
  refine ⟨_, ⟨_, hR.re hr, rfl⟩, _, l1, kx_size hL ⟨_, ⟨_, hR.re hr, rfl⟩, _, l1, kx_clear hL (by omega) (fun w2 fr2 L2 => h w2 ?_)⟩⟩
  obtain ⟨F2, W2⟩ := hW.lst hr fr2 (Or.inl rfl) L2
  refine ⟨_, _, W2, h0, hok, fun s hs => ?_, hall⟩
  by_cases q : s = r
  · subst q
    rw [va_up_s]
    exact ⟨Nat.zero_le _, fun o ho => absurd ho List.not_mem_nil⟩
  · rw [va_up_n q]
    exact hwt s hs
theorem kx_has {post : Int32 → fh_T → Prop} {x : Int64} (hR : xR ad mb K n hd wt dr w) (hr : r < 4) (h : post (bI (ho_has K n (hd r) x = true)) w) : wKXW_has post w (ad 0) (nI r) x := by
  have h40 := hR.ok.1
  obtain ⟨hn, c1, -⟩ := hR.v.cells
  refine ⟨_, hR.web, kx_rep hR hr ⟨fun z => (by cases z), fun y z => ?_⟩⟩
  cases z
  refine ⟨_, ⟨_, hR.web, rfl⟩, _, c1, kx_find hR.v hR.ok.2.1 ?_⟩
  unfold ho_has at h
  cases q : ho_find K x n with
  | none =>
    rw [q, bI_f (fun z => by cases z)] at h
    exact ⟨fun _ => ⟨_, hR.re hr, fun _ => h, fun c => absurd rfl c⟩, fun y z => by cases z⟩
  | some g =>
    have hg := (ho_find_some q).1
    rw [q] at h
    refine ⟨fun z => (by cases z), fun y z => ?_⟩
    cases z
    refine ⟨_, hR.re hr, kx_holds (hR.re hr) (hR.m hg) (by omega) (bI_br (fun c => ?_) (fun c => ?_))⟩
    · rw [bI_f c] at h; exact h
    · rw [bI_t c] at h; exact h
theorem kx_memberAt {post : Option Nat → fh_T → Prop} {L : List Nat} {x : Int32} (hR : xR ad mb K n hd wt dr w) (hr : r < 4) (hL : ho_srt True K (fun g => hb (hd r) g = true) L) (h0 : (x < 0 ∨ ¬ x < nI L.length) → post none w) (h1 : ∀ k, k < L.length → x = nI k → L.getD k 0 < n → post (some (mb (L.getD k 0))) w) : wKXW_memberAt post w (ad 0) (nI r) x := by
  obtain ⟨rw1, hlt⟩ := hR.ord hr hL
  refine ⟨_, hR.web, kx_rep hR hr ⟨fun z => (by cases z), fun y z => ?_⟩⟩
  cases z
  refine ⟨_, ⟨_, hR.re hr, rfl⟩, _, rw1.1, kx_at rw1 (fun c => ⟨fun _ => h0 c, fun y z => by cases z⟩) (fun k hk e => ⟨fun z => (by cases z), fun y z => ?_⟩)⟩
  cases z
  exact h1 k hk e (hlt _ (getD_mem hk))
theorem kx_hashAt {post : Int64 → fh_T → Prop} {L : List Nat} {x : Int32} (hR : xR ad mb K n hd wt dr w) (hr : r < 4) (hL : ho_srt True K (fun g => hb (hd r) g = true) L) (h0 : (x < 0 ∨ ¬ x < nI L.length) → post 0 w) (h1 : ∀ k, k < L.length → x = nI k → post (K (L.getD k 0)).1.1 w) : wKXW_hashAt post w (ad 0) (nI r) x := by
  refine ⟨_, hR.web, kx_memberAt hR hr hL (fun c => ⟨fun _ => h0 c, fun y z => by cases z⟩) (fun k hk e hg => ⟨fun z => (by cases z), fun y z => ?_⟩)⟩
  cases z
  obtain ⟨oa, m1, la, lf, o1, -⟩ := hR.m hg
  exact ⟨_, ⟨_, m1, rfl⟩, _, ⟨_, o1, rfl⟩, h1 k hk e⟩
theorem kx_about {post : Int32 → fh_T → Prop} {L : List Nat} {x y : Int32} (hR : xR ad mb K n hd wt dr w) (hr : r < 4) (hL : ho_srt True K (fun g => hb (hd r) g = true) L) (h0 : (x < 0 ∨ ¬ x < nI L.length) → post (-1) w) (h1 : ∀ k, k < L.length → x = nI k → post (ho_abt (K (L.getD k 0)) y) w) : wKXW_about post w (ad 0) (nI r) x y := by
  refine ⟨_, hR.web, kx_memberAt hR hr hL (fun c => ⟨fun _ => h0 c, fun y z => by cases z⟩) (fun k hk e hg => ⟨fun z => (by cases z), fun y' z => ?_⟩)⟩
  cases z
  obtain ⟨oa, m1, la, lf, o1, o2, -⟩ := hR.m hg
  have hh := h1 k hk e
  unfold ho_abt at hh
  refine ⟨fun q => ⟨_, ⟨_, m1, rfl⟩, _, ⟨_, o1, rfl⟩, ?_⟩, fun q => ⟨_, ⟨_, m1, rfl⟩, _, ⟨_, o1, rfl⟩, ?_⟩, fun q => ⟨_, ⟨_, m1, rfl⟩, _, ⟨_, o1, rfl⟩, ?_⟩, fun q => ⟨_, ⟨_, m1, rfl⟩, _, ⟨_, o1, rfl⟩, ?_⟩, fun q => ⟨_, ⟨_, m1, rfl⟩, _, ⟨_, o1, rfl⟩, _, _, o2, ?_⟩, fun q => ⟨_, ⟨_, m1, rfl⟩, ?_⟩, fun ⟨q0, q1, q2, q3, q4, q5⟩ => ?_⟩
  · subst q; exact hh
  · subst q; exact hh
  · subst q; exact hh
  · subst q; exact hh
  · subst q; exact hh
  · subst q; exact hh
  · rw [if_neg q0, if_neg q1, if_neg q2, if_neg q3, if_neg q4, if_neg q5] at hh
    exact hh
theorem kx_linkAt {post : Int64 → fh_T → Prop} {L : List Nat} {x y : Int32} (hR : xR ad mb K n hd wt dr w) (hr : r < 4) (hL : ho_srt True K (fun g => hb (hd r) g = true) L) (h0 : (x < 0 ∨ ¬ x < nI L.length) → post 0 w) (h1 : ∀ k, k < L.length → x = nI k → (y < 0 ∨ ¬ y < nI (K (L.getD k 0)).1.2.2.length) → post 0 w) (h2 : ∀ k, k < L.length → x = nI k → ∀ j, j < (K (L.getD k 0)).1.2.2.length → y = nI j → post ((K (L.getD k 0)).1.2.2.getD j 0) w) : wKXW_linkAt post w (ad 0) (nI r) x y := by
  refine ⟨_, hR.web, kx_memberAt hR hr hL (fun c => ⟨fun _ => h0 c, fun y z => by cases z⟩) (fun k hk e hg => ⟨fun z => (by cases z), fun y' z => ?_⟩)⟩
  cases z
  obtain ⟨oa, m1, la, lf, o1, o2, o3, -, -, o4⟩ := hR.m hg
  refine ⟨fun q => h1 k hk e (Or.inl q), fun q => ⟨_, ⟨_, m1, rfl⟩, _, ⟨_, o1, rfl⟩, _, _, o2, fun q2 => ⟨_, ⟨_, m1, rfl⟩, _, ⟨_, o1, rfl⟩, _, _, o2, ?_⟩, fun q2 => h1 k hk e (Or.inr q2)⟩⟩
  obtain ⟨j, hj, ey⟩ := nI_of q
  subst ey
  have hj2 := (nI_ltI hj (by omega)).mp q2
  rw [tN hj, o3 j hj2]
  exact ⟨vp_in_nI hj2 (by omega), h2 k hk e j hj2 rfl⟩
theorem kx_st4 {post : Int32 → fh_T → Prop} {L : List Nat} {key : Int32} (hR : xR ad mb K n hd wt dr w) (hr : r < 4) (hL : ho_srt True K (fun g => hb (hd r) g = true) L) : ∀ (Q P : List Nat) (s : Int32), P ++ Q = L → post (ho_val K key Q s) w → wKXRe_stateOf_4 post (Q.length + 1) w (ad (25 + r)) key s (nI P.length) := by
  obtain ⟨rw0, hlt⟩ := hR.ord hr hL
  obtain ⟨r1, r2, f, r3, r4⟩ := rw0
  have hre := hR.re hr
  intro Q
  induction Q with
  | nil =>
    intro P s e h
    rw [List.append_nil] at e
    subst e
    rw [List.length_nil, wKXRe_stateOf_4_s]
    exact ⟨_, ⟨_, hre, rfl⟩, _, ⟨_, r1, rfl⟩, fun _ => h, fun c => absurd (nI_le (Nat.le_refl _) (by omega)) c⟩
  | cons g Q ih =>
    intro P s e h
    have hlen : L.length = P.length + (Q.length + 1) := by rw [← e, List.length_append, List.length_cons]
    have hgn : g < n := hlt g (by rw [← e]; exact List.mem_append_right _ List.mem_cons_self)
    have hget : L.getD P.length 0 = g := by
      rw [← e, List.getD_eq_getElem?_getD, List.getElem?_append_right (Nat.le_refl _), Nat.sub_self]
      rfl
    obtain ⟨oa, m1, mO⟩ := hR.m hgn
    obtain ⟨la, lf, o1, -⟩ := id mO
    have nx : ∀ s', post (ho_val K key Q s') w → wKXRe_stateOf_4 post (Q.length + 1) w (ad (25 + r)) key s' (nI P.length + 1) := fun s' hs => by
      have := ih (P ++ [g]) s' (by rw [List.append_assoc]; exact e) hs
      rw [List.length_append] at this
      rw [nI_1]
      exact this
    have fk : f (Int32.toNatClampNeg (nI P.length)) = some (mb g) := by rw [tN (by omega), r4 P.length (by omega), hget]
    rw [ho_val] at h
    rw [List.length_cons, wKXRe_stateOf_4_s]
    refine ⟨_, ⟨_, hre, rfl⟩, _, ⟨_, r1, rfl⟩, fun c => absurd c (nI_ge (by omega) (by omega)), fun _ => ⟨_, ⟨_, hre, rfl⟩, _, ⟨_, r1, rfl⟩, _, _, _, r3, vp_in_nI (by omega) (by omega), fk, _, ⟨_, m1, rfl⟩, _, o1, kx_isOf mO (bI_br (fun q => ⟨_, o1, kx_isOf mO (bI_br (fun q2 => nx _ ?_) (fun q2 => ⟨_, ⟨_, o1, rfl⟩, nx _ ?_⟩))⟩) (fun q => ⟨_, ⟨_, o1, rfl⟩, nx _ ?_⟩))⟩⟩
    · rw [if_neg q, if_neg q2] at h; exact h
    · rw [if_neg q, if_pos q2] at h; exact h
    · rw [if_pos q] at h; exact h
theorem kx_value {post : Int32 → fh_T → Prop} {L : List Nat} {key : Int32} (hR : xR ad mb K n hd wt dr w) (hr : r < 4) (hL : ho_srt True K (fun g => hb (hd r) g = true) L) (h0 : (key < 0 ∨ ¬ key < 8) → post 0 w) (h1 : ¬ key < 0 → key < 8 → post (ho_val K key L 0) w) : wKXW_value post w (ad 0) (nI r) key := by
  refine ⟨_, hR.web, kx_rep hR hr ⟨fun z => (by cases z), fun y z => ?_⟩⟩
  cases z
  exact ⟨fun c => h0 (Or.inl c), fun c => ⟨fun c2 => ⟨_, hR.re hr, _, kx_st4 hR hr hL L [] 0 rfl (h1 c c2)⟩, fun c2 => h0 (Or.inr c2)⟩⟩
theorem kx_all {post : Int32 → fh_T → Prop} (hR : xR ad mb K n hd wt dr w) (h : post (nI n) w) : wKXW_all post w (ad 0) := by
  obtain ⟨hn, c1, c7, -⟩ := hR.v.cells
  exact ⟨_, ⟨_, hR.web, rfl⟩, _, ⟨_, c1, rfl⟩, _, ⟨_, c7, rfl⟩, h⟩
theorem kx_draft {post : fh_T → Prop} {a1 a2 a3 a4 : Int32} (hR : xR ad mb K n hd wt dr w) (h : ∀ w', xR ad mb K n hd wt (va_up dr 0 (0, (a1, a2, a3, a4), [])) w' → post w') : wKXW_draft post w (ad 0) a1 a2 a3 a4 := by
  have hD := hR.drf (show 0 < 2 by omega)
  obtain ⟨d1, -⟩ := id hD
  exact ⟨_, ⟨_, hR.web, rfl⟩, _, d1, kx_begin hD (fun w' fr D' => h w' (hR.dft (show 0 < 2 by omega) (fun a ha _ => fr a ha) D').2)⟩
theorem kx_link {post : Int32 → fh_T → Prop} {x : Int64} (hR : xR ad mb K n hd wt dr w) (h0 : ¬ (dr 0).2.2.length < 4 → post 0 w) (h : (dr 0).2.2.length < 4 → ∀ w', xR ad mb K n hd wt (va_up dr 0 ((dr 0).1, (dr 0).2.1, (dr 0).2.2 ++ [x])) w' → post 1 w') : wKXW_link post w (ad 0) x := by
  have hD := hR.drf (show 0 < 2 by omega)
  obtain ⟨d1, -⟩ := id hD
  refine ⟨_, ⟨_, hR.web, rfl⟩, _, d1, kx_append hD (fun c => ⟨?_, h0 c⟩) (fun c w' fr D' => ⟨?_, h c w' (hR.dft (show 0 < 2 by omega) fr D').2⟩)⟩
  · have := bI_nar False
    rw [bI_f (fun z => z)] at this
    exact this
  · have := bI_nar True
    rw [bI_t trivial] at this
    exact this
theorem kx_draftHash {post : Int64 → fh_T → Prop} {mc ms : Nat} (hR : xR ad mb K n hd wt dr w) (hmc : 2 ≤ mc) (hms : 10 ≤ ms) (h : ∀ w', xR ad mb K n hd wt dr w' → post (ho_hashO (dr 0).2.1 (dr 0).2.2) w') : wKXW_draftHash post w mc ms (ad 0) := by
  have hD := hR.drf (show 0 < 2 by omega)
  obtain ⟨d1, -⟩ := id hD
  refine ⟨_, ⟨_, hR.web, rfl⟩, _, d1, mc, ms, 0, 0, by omega, by omega, kx_finished (ad := ad) hD hR.d46.1 hR.d46.2 hmc hms (fun q w' hE hO => ⟨_, rfl, ?_⟩)⟩
  obtain ⟨la, lf, o1, -⟩ := id hO
  exact ⟨_, ⟨_, o1, rfl⟩, h w' (hR.ext hE)⟩
end XQ
section XQ2
variable {ad mb : Nat → Nat} {A : ho_A} {dr : Nat → ho_O} {w w' : fh_T} {r : Nat}
theorem kx_comeA {post : Int32 → fh_T → Prop} {mc ms a : Nat} {o : ho_O} (hR : xA ad mb A dr w) (hr : r < 4) (ho : xO ad w a o) (hmc : 11 ≤ mc) (hms : 110 ≤ ms) (h : ∀ mb' w', xF ad w w' → xA ad mb' (ho_cA A r o) dr w' → post (ho_ca A r o) w') : wKXRe_welcome post w mc ms (ad (25 + r)) a := by
  obtain ⟨la, lf, -, -, -, -, -, ol⟩ := id ho
  exact kx_welcome hR hr ho hmc hms (ho_T_runs (ho_come1_ok (xR.vok hR hr) ol)) h
theorem kx_offer {post : Int32 → fh_T → Prop} {mc ms : Nat} (hR : xA ad mb A dr w) (hr : r < 4) (hmc : 13 ≤ mc) (hms : 120 ≤ ms) (h : ∀ mb' w', xA ad mb' (ho_cA A r (ho_od (dr 0))) dr w' → post (ho_ca A r (ho_od (dr 0))) w') : wKXW_offer post w mc ms (ad 0) (nI r) := by
  have hD := xR.drf hR (show 0 < 2 by omega)
  obtain ⟨d1, -⟩ := id hD
  refine ⟨_, xR.web hR, kx_rep hR hr ⟨fun z => (by cases z), fun y z => ?_⟩⟩
  cases z
  refine ⟨_, ⟨_, xR.web hR, rfl⟩, _, d1, 2, 10, mc - 2, ms - 10, by omega, by omega, kx_finished (ad := ad) hD (xR.d46 hR).1 (xR.d46 hR).2 (Nat.le_refl _) (Nat.le_refl _) (fun q w' hE hO => ⟨_, rfl, ?_⟩)⟩
  have hR' : xA ad mb A dr w' := xR.ext hR hE
  exact ⟨_, xR.re hR' hr, mc - 2, ms - 10, 0, 0, by omega, by omega, kx_comeA hR' hr hO (by omega) (by omega) (fun mb2 w2 _ R2 => h mb2 w2 R2)⟩
theorem kx_w46 {post : Int32 → fh_T → Prop} {mc ms : Nat} {L : List Nat} {a2 a3 a4 : Int32} (hr : r < 4) (hmc : 13 ≤ mc) (hms : 120 ≤ ms) (hL : ho_srt False A.1 (fun g => hb (ho_hds A.1 A.2.1 (A.2.2.1 r)) g = true) L) (hl40 : L.length ≤ 40) (h : ∀ mb' dr' w', dr' 0 = dr 0 → xA ad mb' (ho_cA A r (ho_wo A.1 L r a2 a3 a4)) dr' w' → post (ho_ca A r (ho_wo A.1 L r a2 a3 a4)) w') : ∀ d k w (dr' : Nat → ho_O), k + d = L.length → L.length - 4 ≤ k → dr' 0 = dr 0 → (dr' 1).2 = ((nI r, a2, a3, a4), (ho_wl A.1 L).take (k - (L.length - 4))) → xA ad mb A dr' w → wKXW_write_46 post (d + 1) w mc ms (ad 0) (ad (25 + r)) (nI L.length) (nI k) := by
  have hwl := ho_wl_len A.1 L
  intro d
  induction d with
  | zero =>
    intro k w dr' e hk h0 h1 hR
    have e : k = L.length := by omega
    subst e
    have hD := xR.drf hR (show 1 < 2 by omega)
    obtain ⟨d1, -⟩ := id hD
    rw [wKXW_write_46_s]
    refine ⟨fun _ => ⟨_, ⟨_, xR.web hR, rfl⟩, _, d1, 2, 10, mc - 2, ms - 10, by omega, by omega, kx_finished (ad := ad) hD (xR.d46 hR).1 (xR.d46 hR).2 (Nat.le_refl _) (Nat.le_refl _) (fun q w' hE hO => ⟨_, rfl, ?_⟩)⟩, fun c => absurd (nI_le (Nat.le_refl _) (by omega)) c⟩
    rw [List.take_of_length_le (by omega)] at h1
    rw [h1] at hO
    have hR' : xA ad mb A dr' w' := xR.ext hR hE
    exact ⟨_, xR.re hR' hr, mc - 2, ms - 10, 0, 0, by omega, by omega, kx_comeA hR' hr hO (by omega) (by omega) (fun mb2 w2 _ R2 => h mb2 dr' w2 h0 R2)⟩
  | succ d ih =>
    intro k w dr' e hk h0 h1 hR
    have hkl : k < L.length := by omega
    have hD := xR.drf hR (show 1 < 2 by omega)
    obtain ⟨d1, -⟩ := id hD
    rw [wKXW_write_46_s]
    refine ⟨fun c => absurd c (nI_ge hkl (by omega)), fun _ => ⟨_, ⟨_, xR.web hR, rfl⟩, kx_headHash hR hr hL (fun c => ?_) (fun k' hk' ek => ⟨_, d1, kx_append hD (fun c => ?_) (fun c w2 fr2 D2 => ?_)⟩)⟩⟩
    · rcases c with c | c
      · exact absurd c (nI_pos (by omega))
      · exact absurd (nI_lt hkl (by omega)) c
    · exact absurd (by rw [h1]; show ((ho_wl A.1 L).take _).length < 4; rw [List.length_take]; omega) c
    · have ek' : k = k' := (nI_eq (by omega) (by omega)).mp ek
      subst ek'
      have R2 := (xR.dft hR (show 1 < 2 by omega) fr2 D2).2
      rw [nI_1]
      refine ih (k + 1) w2 _ (by omega) (by omega) ((va_up_n (by decide)).trans h0) ?_ R2
      rw [va_up_s]
      show ((dr' 1).2.1, (dr' 1).2.2 ++ [(A.1 (L.getD k 0)).1.1]) = _
      rw [h1]
      have e1 : k + 1 - (L.length - 4) = (k - (L.length - 4)) + 1 := by omega
      have hj : k - (L.length - 4) < (ho_wl A.1 L).length := by omega
      have e2 : (ho_wl A.1 L).getD (k - (L.length - 4)) 0 = (A.1 (L.getD k 0)).1.1 := by
        rw [ho_wl_get (by omega), show L.length - 4 + (k - (L.length - 4)) = k by omega]
      rw [e1, List.take_succ, ← e2, List.getD_eq_getElem?_getD, List.getElem?_eq_getElem hj]
      rfl
theorem kx_write {post : Int32 → fh_T → Prop} {mc ms : Nat} {L : List Nat} {a2 a3 a4 : Int32} (hR : xA ad mb A dr w) (hr : r < 4) (hmc : 13 ≤ mc) (hms : 120 ≤ ms) (hL : ho_srt False A.1 (fun g => hb (ho_hds A.1 A.2.1 (A.2.2.1 r)) g = true) L) (h : ∀ mb' dr' w', dr' 0 = dr 0 → xA ad mb' (ho_cA A r (ho_wo A.1 L r a2 a3 a4)) dr' w' → post (ho_ca A r (ho_wo A.1 L r a2 a3 a4)) w') : wKXW_write post w mc ms (ad 0) (nI r) a2 a3 a4 := by
  have hD := xR.drf hR (show 1 < 2 by omega)
  obtain ⟨d1, -⟩ := id hD
  refine ⟨_, xR.web hR, kx_rep hR hr ⟨fun z => (by cases z), fun y z => ?_⟩⟩
  cases z
  refine ⟨_, ⟨_, xR.web hR, rfl⟩, _, d1, kx_begin hD (fun w2 fr2 D2 => ?_)⟩
  have R2 := (xR.dft hR (show 1 < 2 by omega) (fun a ha _ => fr2 a ha) D2).2
  obtain ⟨rw2, hlt⟩ := R2.hds hr hL
  have hl40 := rw2.2.1
  refine ⟨_, ⟨_, R2.re hr, rfl⟩, _, ⟨_, rw2.1, rfl⟩, ?_⟩
  have es : (if (0 : Int32) < nI L.length - 4 then nI L.length - 4 else 0) = nI (L.length - 4) := by
    rcases Nat.lt_or_ge L.length 4 with q | q
    · have : ∀ m : Nat, m < 4 → (if (0 : Int32) < nI m - 4 then nI m - 4 else 0) = nI (m - 4) := by decide
      exact this _ q
    · rw [show (4 : Int32) = nI 4 from rfl, nI_sub q]
      rcases Nat.eq_or_lt_of_le q with q2 | q2
      · rw [← q2]; rfl
      · exact if_pos (show nI 0 < nI (L.length - 4) from nI_lt (by omega) (by omega))
  rw [es]
  refine ⟨_, kx_w46 (dr := dr) hr hmc hms hL hl40 h (L.length - (L.length - 4)) (L.length - 4) w2 _ (by omega) (Nat.le_refl _) (va_up_n (by decide)) ?_ R2⟩
  rw [va_up_s, Nat.sub_self, List.take_zero]
end XQ2
