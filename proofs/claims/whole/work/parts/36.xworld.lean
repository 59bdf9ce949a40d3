/-! the class: its whole world, and how it changes -/
/-- ad: 0 the web, 1 Known, 2 the array of replicas, 3 to 6 the drafts and their links, 7 + 2k and 8 + 2k the rows (0 the members, 1 + 2r the order and 2 + 2r the heads of r), 25 + r the replicas, 29 + r those that wait -/
def xW (ad ea mb : Nat → Nat) (K : Nat → ho_M) (n : Nat) (Ls : Nat → List Nat) (hs : Nat → Int64) (wt : Nat → List ho_O) (dr : Nat → ho_O) (w : fh_T) : Prop :=
  (∀ i j, i < 33 → j < 33 → ad i = ad j → i = j) ∧ (∀ r s, r < 4 → s < 4 → r ≠ s → ea r = ea s → w (ea r) = some fh_mark) ∧ w (ad 0) = some (.inr (1, [.ref (ad 1), .ref (ad 2), .ref (ad 3), .ref (ad 5)])) ∧ w (ad 1) = some (.inr (2, [.ref (ad 7)])) ∧ (∃ f, w (ad 2) = some (.inl (1, 4, .inr (.inr (.inr (.inr f))))) ∧ ∀ r, r < 4 → f r = some (ad (25 + r))) ∧ (∀ d, d < 2 → xD w (ad (3 + 2 * d)) (ad (4 + 2 * d)) (dr d)) ∧ (∀ k, k < 9 → xRow w (ad (7 + 2 * k)) (ad (8 + 2 * k)) mb (Ls k)) ∧ (∀ r, r < 4 → w (ad (25 + r)) = some (.inr (4, [.ref (ad 1), .ref (ad (9 + 4 * r)), .ref (ad (11 + 4 * r)), .ref (ad (29 + r)), .long (hs r)]))) ∧ (∀ r, r < 4 → xL ad w (ad (29 + r)) (ea r) (wt r)) ∧ (∀ g, g < n → xM ad w (mb g) g (K g)) ∧ ∀ k, k < 9 → ∀ g, g ∈ Ls k → g < n
theorem xD.fr {w w' : fh_T} {d dl : Nat} {o : ho_O} (h : xD w d dl o) (h1 : w' d = w d) (h2 : w' dl = w dl) : xD w' d dl o := by
  obtain ⟨a, b, f, c, e⟩ := h
  exact ⟨by rw [h1]; exact a, b, f, by rw [h2]; exact c, e⟩
theorem xL.ea {ad : Nat → Nat} {w : fh_T} {al ea : Nat} {wt : List ho_O} (h : xL ad w al ea wt) : ∃ c n z, w ea = some (.inl (c, n, z)) ∧ (c = 3 ∨ c = 4) := by
  obtain ⟨mo, h1, ⟨-, h2⟩ | ⟨f, h2, -⟩⟩ := h
  · exact ⟨_, _, _, h2, Or.inr rfl⟩
  · exact ⟨_, _, _, h2, Or.inl rfl⟩
theorem xL.fr {ad : Nat → Nat} {w w' : fh_T} {al ea : Nat} {wt : List ho_O} (h : xL ad w al ea wt) (h1 : w' al = w al) (h2 : w' ea = w ea) (hF : xF ad w w') : xL ad w' al ea wt := by
  obtain ⟨mo, a, b⟩ := h
  refine ⟨mo, by rw [h1]; exact a, ?_⟩
  rcases b with ⟨b1, b2⟩ | ⟨f, b1, b2⟩
  · exact Or.inl ⟨b1, by rw [h2]; exact b2⟩
  · refine Or.inr ⟨f, by rw [h2]; exact b1, fun k hk => ?_⟩
    obtain ⟨oa, c1, c2⟩ := b2 k hk
    exact ⟨oa, c1, c2.fr hF⟩
section XW
variable {ad ea mb : Nat → Nat} {K : Nat → ho_M} {n : Nat} {Ls : Nat → List Nat} {hs : Nat → Int64} {wt : Nat → List ho_O} {dr : Nat → ho_O} {w w' : fh_T}
theorem xW.ext (hW : xW ad ea mb K n Ls hs wt dr w) (hE : xE w w') : xW ad ea mb K n Ls hs wt dr w' := by
  obtain ⟨inj, eai, c0, c1, ⟨fR, c2, c2'⟩, cd, cr, cre, cl, cm, clt⟩ := hW
  refine ⟨inj, fun r s h1 h2 h3 h4 => hE.at (eai r s h1 h2 h3 h4), hE.at c0, hE.at c1, ⟨fR, hE.at c2, c2'⟩, fun d hd => ?_, fun k hk => ?_, fun r hr => hE.at (cre r hr), fun r hr => ?_, fun g hg => (cm g hg).fr hE.fr, clt⟩
  · obtain ⟨a, b, f, c, e⟩ := cd d hd
    exact ⟨hE.at a, b, f, hE.at c, e⟩
  · obtain ⟨a, b, f, c, e⟩ := cr k hk
    exact ⟨hE.at a, b, f, hE.at c, e⟩
  · obtain ⟨c, m, z, h1, -⟩ := (cl r hr).ea
    obtain ⟨mo, h2, -⟩ := id (cl r hr)
    exact (cl r hr).fr (by rw [hE.at h2, h2]) (by rw [hE.at h1, h1]) hE.fr
/-- what holds if only the cells of T and such as are no part of the world have changed -/
theorem xW.rowu (hW : xW ad ea mb K n Ls hs wt dr w) {k : Nat} (hk : k < 9) {L' : List Nat} (hfr : ∀ a, a ≠ ad (7 + 2 * k) → a ≠ ad (8 + 2 * k) → w' a = w a) (hR : xRow w' (ad (7 + 2 * k)) (ad (8 + 2 * k)) mb L') (hlt : ∀ g, g ∈ L' → g < n) : xF ad w w' ∧ xW ad ea mb K n (va_up Ls k L') hs wt dr w' := by
  obtain ⟨inj, eai, c0, c1, ⟨fR, c2, c2'⟩, cd, cr, cre, cl, cm, clt⟩ := hW
  obtain ⟨r1, -, f0, r3, -⟩ := cr k hk
  have hF : xF ad w w' := fun a e h1 h2 => by
    have n1 : a ≠ ad (7 + 2 * k) := fun z => by
      rw [z, r1] at h1
      cases h1
      rcases h2 with h2 | h2 | h2 <;> cases h2
    have n2 : a ≠ ad (8 + 2 * k) := fun z => by
      rw [z, r3] at h1
      cases h1
      cases h2.1
    rw [hfr a n1 n2, h1]
  have hT : ∀ i, i < 33 → i ≠ 7 + 2 * k → i ≠ 8 + 2 * k → w' (ad i) = w (ad i) := fun i hi h1 h2 => hfr _ (fun e => h1 (inj _ _ hi (by omega) e)) (fun e => h2 (inj _ _ hi (by omega) e))
  have hea : ∀ r, r < 4 → w' (ea r) = w (ea r) := fun r hr => by
    obtain ⟨c, m, z, h1, h2⟩ := (cl r hr).ea
    refine hfr _ (fx_ne h1 r1 (fun z => nomatch z)) (fx_ne h1 r3 (fun z => ?_))
    cases z
    rcases h2 with h2 | h2 <;> cases h2
  refine ⟨hF, inj, fun r s h1 h2 h3 h4 => by rw [hea r h1]; exact eai r s h1 h2 h3 h4, by rw [hT 0 (by omega) (by omega) (by omega)]; exact c0, by rw [hT 1 (by omega) (by omega) (by omega)]; exact c1, ⟨fR, by rw [hT 2 (by omega) (by omega) (by omega)]; exact c2, c2'⟩, fun d hd => (cd d hd).fr (hT _ (by omega) (by omega) (by omega)) (hT _ (by omega) (by omega) (by omega)), fun j hj => ?_, fun r hr => by rw [hT _ (by omega) (by omega) (by omega)]; exact cre r hr, fun r hr => (cl r hr).fr (hT _ (by omega) (by omega) (by omega)) (hea r hr) hF, fun g hg => (cm g hg).fr hF, fun j hj => ?_⟩
  · by_cases e : j = k
    · subst e
      rw [va_up_s]
      exact hR
    · rw [va_up_n e]
      exact (cr j hj).fr (hT _ (by omega) (by omega) (by omega)) (hT _ (by omega) (by omega) (by omega))
  · by_cases e : j = k
    · subst e
      rw [va_up_s]
      exact hlt
    · rw [va_up_n e]
      exact clt j hj
theorem xW.held (hW : xW ad ea mb K n Ls hs wt dr w) {r : Nat} (hr : r < 4) {x : Int64} (e : w' = fh_up w (ad (25 + r)) (.inr (4, [.ref (ad 1), .ref (ad (9 + 4 * r)), .ref (ad (11 + 4 * r)), .ref (ad (29 + r)), .long x]))) : xF ad w w' ∧ xW ad ea mb K n Ls (va_up hs r x) wt dr w' := by
  obtain ⟨inj, eai, c0, c1, ⟨fR, c2, c2'⟩, cd, cr, cre, cl, cm, clt⟩ := hW
  have r1 := cre r hr
  have hF : xF ad w w' := fun a e' h1 h2 => by
    have n1 : a ≠ ad (25 + r) := fun z => by
      rw [z, r1] at h1
      cases h1
      rcases h2 with h2 | h2 | h2 <;> cases h2
    rw [e, fh_up_n n1, h1]
  have hT : ∀ i, i < 33 → i ≠ 25 + r → w' (ad i) = w (ad i) := fun i hi h1 => by
    rw [e, fh_up_n (fun z => h1 (inj _ _ hi (by omega) z))]
  have hea : ∀ s, s < 4 → w' (ea s) = w (ea s) := fun s hs => by
    obtain ⟨c, m, z, h1, h2⟩ := (cl s hs).ea
    rw [e, fh_up_n (fx_ne h1 r1 (fun z => nomatch z))]
  refine ⟨hF, inj, fun r s h1 h2 h3 h4 => by rw [hea r h1]; exact eai r s h1 h2 h3 h4, by rw [hT 0 (by omega) (by omega)]; exact c0, by rw [hT 1 (by omega) (by omega)]; exact c1, ⟨fR, by rw [hT 2 (by omega) (by omega)]; exact c2, c2'⟩, fun d hd => (cd d hd).fr (hT _ (by omega) (by omega)) (hT _ (by omega) (by omega)), fun j hj => (cr j hj).fr (hT _ (by omega) (by omega)) (hT _ (by omega) (by omega)), fun s hs => ?_, fun r hr => (cl r hr).fr (hT _ (by omega) (by omega)) (hea r hr) hF, fun g hg => (cm g hg).fr hF, clt⟩
  by_cases q : s = r
  · subst q
    rw [va_up_s]
    exact fe e
  · rw [va_up_n q, hT _ (by omega) (by omega)]
    exact cre s hs
theorem xW.lst (hW : xW ad ea mb K n Ls hs wt dr w) {r e' : Nat} (hr : r < 4) {l' : List ho_O} (hfr : ∀ a, w a ≠ none → a ≠ ad (29 + r) → (a = ea r → w a = some fh_mark) → w' a = w a) (he : e' = ea r ∨ w e' = none) (hL : xL ad w' (ad (29 + r)) e' l') : xF ad w w' ∧ xW ad (va_up ea r e') mb K n Ls hs (va_up wt r l') dr w' := by
  obtain ⟨inj, eai, c0, c1, ⟨fR, c2, c2'⟩, cd, cr, cre, cl, cm, clt⟩ := hW
  obtain ⟨mo, r1, -⟩ := id (cl r hr)
  obtain ⟨ec, em, ez, r2, r3⟩ := (cl r hr).ea
  have ne : ∀ {a : Nat} {e : fh_E}, w a = some e → (∀ z, e ≠ .inl (3, z)) → (∀ z, e ≠ .inl (4, z)) → a ≠ ea r := fun {a e} h1 h2 h3 z => by
    rw [z, r2] at h1
    cases h1
    rcases r3 with r3 | r3
    · subst r3; exact h2 _ rfl
    · subst r3; exact h3 _ rfl
  have hx : ∀ {a : Nat} {e : fh_E}, w a = some e → a ≠ ad (29 + r) → (∀ z, e ≠ .inl (3, z)) → (∀ z, e ≠ .inl (4, z)) → w' a = w a := fun {a e} h1 h2 h3 h4 => hfr a (by rw [h1]; exact fun z => nomatch z) h2 (fun z => absurd z (ne h1 h3 h4))
  have hF : xF ad w w' := fun a e h1 h2 => by
    have n1 : a ≠ ad (29 + r) := fun z => by
      rw [z, r1] at h1
      cases h1
      rcases h2 with h2 | h2 | h2 <;> cases h2
    rw [hx h1 n1 (fun z q => by subst q; cases h2.1) (fun z q => by subst q; cases h2.1), h1]
  have nT : ∀ i, i < 33 → i ≠ 29 + r → ad i ≠ ad (29 + r) := fun i hi h1 z => h1 (inj _ _ hi (by omega) z)
  have hea : ∀ s, s < 4 → s ≠ r → w' (ea s) = w (ea s) := fun s hs hsr => by
    obtain ⟨c, m, z, h1, h2⟩ := (cl s hs).ea
    refine hfr _ (by rw [h1]; exact fun z => nomatch z) (fx_ne h1 r1 (fun z => nomatch z)) (fun q => eai s r hs hr hsr q)
  refine ⟨hF, inj, fun s t h1 h2 h3 h4 => ?_, by rw [hx c0 (nT 0 (by omega) (by omega)) (fun z q => nomatch q) (fun z q => nomatch q)]; exact c0, by rw [hx c1 (nT 1 (by omega) (by omega)) (fun z q => nomatch q) (fun z q => nomatch q)]; exact c1, ⟨fR, by rw [hx c2 (nT 2 (by omega) (by omega)) (fun z q => by cases q) (fun z q => by cases q)]; exact c2, c2'⟩, fun d hd => ?_, fun j hj => ?_, fun s hs => ?_, fun s hs => ?_, fun g hg => (cm g hg).fr hF, clt⟩
  · by_cases q1 : s = r
    · subst q1
      have q2 : t ≠ s := fun z => h3 z.symm
      rw [va_up_s, va_up_n q2] at h4
      rw [va_up_s]
      rcases he with he | he
      · have h5 := eai s t h1 h2 h3 (by rw [← he]; exact h4)
        rw [he, hfr _ (by rw [h5]; exact fun z => nomatch z) (fx_ne h5 r1 (fun z => nomatch z)) (fun _ => h5)]
        exact h5
      · obtain ⟨c, m, z, g1, -⟩ := (cl t h2).ea
        rw [h4, g1] at he
        cases he
    · rw [va_up_n q1] at h4 ⊢
      by_cases q2 : t = r
      · subst q2
        rw [va_up_s] at h4
        rcases he with he | he
        · have h5 := eai s t h1 h2 h3 (by rw [← he]; exact h4)
          rw [hea s h1 q1]
          exact h5
        · obtain ⟨c, m, z, g1, -⟩ := (cl s h1).ea
          rw [← h4, g1] at he
          cases he
      · rw [va_up_n q2] at h4
        rw [hea s h1 q1]
        exact eai s t h1 h2 h3 h4
  · obtain ⟨a, -, f, b, -⟩ := id (cd d hd)
    exact (cd d hd).fr (hx a (nT _ (by omega) (by omega)) (fun z q => nomatch q) (fun z q => nomatch q)) (hx b (nT _ (by omega) (by omega)) (fun z q => by cases q) (fun z q => by cases q))
  · obtain ⟨a, -, f, b, -⟩ := id (cr j hj)
    exact (cr j hj).fr (hx a (nT _ (by omega) (by omega)) (fun z q => nomatch q) (fun z q => nomatch q)) (hx b (nT _ (by omega) (by omega)) (fun z q => by cases q) (fun z q => by cases q))
  · rw [hx (cre s hs) (nT _ (by omega) (by omega)) (fun z q => nomatch q) (fun z q => nomatch q)]
    exact cre s hs
  · by_cases q : s = r
    · subst q
      rw [va_up_s, va_up_s]
      exact hL
    · rw [va_up_n q, va_up_n q]
      obtain ⟨mo2, g1, -⟩ := id (cl s hs)
      exact (cl s hs).fr (hx g1 (nT _ (by omega) (by omega)) (fun z q => nomatch q) (fun z q => nomatch q)) (hea s hs q) hF
theorem xW.dft (hW : xW ad ea mb K n Ls hs wt dr w) {d : Nat} (hd : d < 2) {o : ho_O} (hfr : ∀ a, a ≠ ad (3 + 2 * d) → a ≠ ad (4 + 2 * d) → w' a = w a) (hD : xD w' (ad (3 + 2 * d)) (ad (4 + 2 * d)) o) : xF ad w w' ∧ xW ad ea mb K n Ls hs wt (va_up dr d o) w' := by
  obtain ⟨inj, eai, c0, c1, ⟨fR, c2, c2'⟩, cd, cr, cre, cl, cm, clt⟩ := hW
  obtain ⟨r1, -, f0, r3, -⟩ := cd d hd
  have hF : xF ad w w' := fun a e h1 h2 => by
    have n1 : a ≠ ad (3 + 2 * d) := fun z => by
      rw [z, r1] at h1
      cases h1
      rcases h2 with h2 | h2 | h2 <;> cases h2
    have n2 : a ≠ ad (4 + 2 * d) := fun z => by
      have h1' := h1
      rw [z, r3] at h1'
      cases h1'
      rcases (show d = 0 ∨ d = 1 by omega) with q | q
      · subst q; exact h2.2.1 z
      · subst q; exact h2.2.2 z
    rw [hfr a n1 n2, h1]
  have hT : ∀ i, i < 33 → i ≠ 3 + 2 * d → i ≠ 4 + 2 * d → w' (ad i) = w (ad i) := fun i hi h1 h2 => hfr _ (fun e => h1 (inj _ _ hi (by omega) e)) (fun e => h2 (inj _ _ hi (by omega) e))
  have hea : ∀ r, r < 4 → w' (ea r) = w (ea r) := fun r hr => by
    obtain ⟨c, m, z, h1, h2⟩ := (cl r hr).ea
    refine hfr _ (fx_ne h1 r1 (fun z => nomatch z)) (fx_ne h1 r3 (fun z => ?_))
    cases z
    rcases h2 with h2 | h2 <;> cases h2
  refine ⟨hF, inj, fun r s h1 h2 h3 h4 => by rw [hea r h1]; exact eai r s h1 h2 h3 h4, by rw [hT 0 (by omega) (by omega) (by omega)]; exact c0, by rw [hT 1 (by omega) (by omega) (by omega)]; exact c1, ⟨fR, by rw [hT 2 (by omega) (by omega) (by omega)]; exact c2, c2'⟩, fun j hj => ?_, fun j hj => (cr j hj).fr (hT _ (by omega) (by omega) (by omega)) (hT _ (by omega) (by omega) (by omega)), fun r hr => by rw [hT _ (by omega) (by omega) (by omega)]; exact cre r hr, fun r hr => (cl r hr).fr (hT _ (by omega) (by omega) (by omega)) (hea r hr) hF, fun g hg => (cm g hg).fr hF, clt⟩
  by_cases e : j = d
  · subst e
    rw [va_up_s]
    exact hD
  · rw [va_up_n e]
    exact (cd j hj).fr (hT _ (by omega) (by omega) (by omega)) (hT _ (by omega) (by omega) (by omega))
/-- one more known one, whose cell lies at q -/
theorem xW.more (hW : xW ad ea mb K n Ls hs wt dr w) {q : Nat} {m : ho_M} (hq : xM ad w q n m) : xW ad ea (va_up mb n q) (ho_put K n m) (n + 1) Ls hs wt dr w := by
  obtain ⟨inj, eai, c0, c1, c2, cd, cr, cre, cl, cm, clt⟩ := hW
  refine ⟨inj, eai, c0, c1, c2, cd, fun k hk => (cr k hk).mbe (fun g hg => va_up_n (Nat.ne_of_lt (clt k hk g hg))), cre, cl, fun g hg => ?_, fun k hk g hg => Nat.lt_succ_of_lt (clt k hk g hg)⟩
  by_cases e : g = n
  · subst e
    rw [va_up_s, ho_put_n]
    exact hq
  · rw [va_up_n e, ho_put_lt (by omega)]
    exact cm g (by omega)
theorem xW.v (hW : xW ad ea mb K n Ls hs wt dr w) (h0 : Ls 0 = List.range n) : xV ad mb K n w := by
  obtain ⟨inj, eai, c0, c1, c2, cd, cr, cre, cl, cm, clt⟩ := hW
  have := cr 0 (by omega)
  rw [h0] at this
  exact ⟨c1, this, cm⟩
/-- changes to such cells as are no part of the world -/
theorem xW.as (hW : xW ad ea mb K n Ls hs wt dr w) {q : Nat} {fs : List Value} {e : fh_E} (hq : w q = some (.inr (8, fs))) (e2 : w' = fh_up w q e) : xW ad ea mb K n Ls hs wt dr w' := by
  have ne : ∀ {a : Nat} {x : fh_E}, w a = some x → (∀ z, x ≠ .inr (8, z)) → w' a = some x := fun {a x} h1 h2 => by
    rw [e2, fh_up_n (fx_ne h1 hq (h2 fs)), h1]
  obtain ⟨inj, eai, c0, c1, ⟨fR, c2, c2'⟩, cd, cr, cre, cl, cm, clt⟩ := hW
  have hO : ∀ {a : Nat} {o : ho_O}, xO ad w a o → xO ad w' a o := fun {a o} h => by
    obtain ⟨la, f, h1, h2, h3⟩ := h
    exact ⟨la, f, ne h1 (fun z q => by cases q), ne h2 (fun z q => nomatch q), h3⟩
  refine ⟨inj, fun r s h1 h2 h3 h4 => ne (eai r s h1 h2 h3 h4) (fun z q => nomatch q), ne c0 (fun z q => by cases q), ne c1 (fun z q => by cases q), ⟨fR, ne c2 (fun z q => nomatch q), c2'⟩, fun d hd => ?_, fun k hk => ?_, fun r hr => ne (cre r hr) (fun z q => by cases q), fun r hr => ?_, fun g hg => ?_, clt⟩
  · obtain ⟨a, b, f, c, d'⟩ := cd d hd
    exact ⟨ne a (fun z q => by cases q), b, f, ne c (fun z q => nomatch q), d'⟩
  · obtain ⟨a, b, f, c, d'⟩ := cr k hk
    exact ⟨ne a (fun z q => by cases q), b, f, ne c (fun z q => nomatch q), d'⟩
  · obtain ⟨mo, a, b⟩ := cl r hr
    refine ⟨mo, ne a (fun z q => by cases q), ?_⟩
    rcases b with ⟨b1, b2⟩ | ⟨f, b1, b2⟩
    · exact Or.inl ⟨b1, ne b2 (fun z q => nomatch q)⟩
    · refine Or.inr ⟨f, ne b1 (fun z q => nomatch q), fun k hk => ?_⟩
      obtain ⟨oa, d1, d2⟩ := b2 k hk
      exact ⟨oa, d1, hO d2⟩
  · obtain ⟨oa, a, b⟩ := cm g hg
    exact ⟨oa, ne a (fun z q => by cases q), hO b⟩
end XW
