/-! what is held is closed under links; heads and order when one more is held -/
def ho_cl (K : Nat → ho_M) (n : Nat) (hd : Int64) : Prop := ∀ g, hb hd g = true → g < n ∧ ∀ i, hb (K g).2.2.1 i = true → hb hd i = true
section HCL
variable {K : Nat → ho_M} {n : Nat} {hd : Int64}
theorem ho_ls_iff (h : ho_ok K n) {g i : Nat} (hg : g < n) : hb (K g).2.2.1 i = true ↔ ∃ a, a < (K g).1.2.2.length ∧ ho_find K ((K g).1.2.2.getD a 0) n = some i := by
  have e : (K g).2.2.1 = (ho_cd K n (K g).1.2.2 (K g).1.2.2.length).2.1 := congrArg (fun m : ho_M => m.2.2.1) (h.2.2 g hg).2.1
  have h40 := h.1
  rw [e, ho_cd_ls (by omega)]
theorem ho_ps_iff (h : ho_ok K n) {g i : Nat} (hg : g < n) : hb (K g).2.2.2 i = true ↔ hb (K g).2.2.1 i = true ∨ ∃ f, hb (K g).2.2.1 f = true ∧ hb (K f).2.2.2 i = true := by
  have e : (K g).2.2.2 = (ho_cd K n (K g).1.2.2 (K g).1.2.2.length).2.1 ||| (ho_cd K n (K g).1.2.2 (K g).1.2.2.length).2.2 := congrArg (fun m : ho_M => m.2.2.2) (h.2.2 g hg).2.1
  have e2 : (K g).2.2.1 = (ho_cd K n (K g).1.2.2 (K g).1.2.2.length).2.1 := congrArg (fun m : ho_M => m.2.2.1) (h.2.2 g hg).2.1
  have h40 := h.1
  rw [e, hb_or, Bool.or_eq_true, ho_cd_ps, ← e2]
  refine or_congr Iff.rfl ⟨fun ⟨a, f, h1, h2, h3⟩ => ⟨f, (ho_ls_iff h hg).mpr ⟨a, h1, h2⟩, h3⟩, fun ⟨f, h1, h2⟩ => ?_⟩
  obtain ⟨a, h3, h4⟩ := (ho_ls_iff h hg).mp h1
  exact ⟨a, f, h3, h4, h2⟩
theorem ho_ls_lt (h : ho_ok K n) {g i : Nat} (hg : g < n) (hi : hb (K g).2.2.1 i = true) : i < g := ho_past_lt h g hg i ((ho_ps_iff h hg).mpr (Or.inl hi))
theorem ho_cl_past (h : ho_ok K n) (hc : ho_cl K n hd) : ∀ k, hb hd k = true → ∀ i, hb (K k).2.2.2 i = true → hb hd i = true := by
  intro k
  induction k using Nat.strongRecOn with
  | _ k ih =>
    intro hk i hi
    obtain ⟨h1, h2⟩ := hc k hk
    rcases (ho_ps_iff h h1).mp hi with q | ⟨f, q1, q2⟩
    · exact h2 i q
    · exact ih f (ho_ls_lt h h1 q1) (h2 f q1) i q2
theorem ho_lh_bits (h : ho_ok K n) {g : Nat} (hg : g < n) (hl : ho_lh K n hd (K g).1.2.2) : ∀ i, hb (K g).2.2.1 i = true → hb hd i = true := fun i hi => by
  obtain ⟨a, h1, h2⟩ := (ho_ls_iff h hg).mp hi
  have := hl a h1
  unfold ho_has at this
  rw [h2] at this
  exact this
theorem hb_orbit {x : Int64} {g i : Nat} (hg : g < 64) : hb (x ||| ho_bit g) i = true ↔ hb x i = true ∨ i = g := by
  rw [hb_or, ho_bit_hb hg, Bool.or_eq_true, decide_eq_true_eq]
  exact or_congr Iff.rfl ⟨Eq.symm, Eq.symm⟩
theorem ho_cl_in (h : ho_ok K n) (hc : ho_cl K n hd) {g : Nat} (hg : g < n) (hl : ∀ i, hb (K g).2.2.1 i = true → hb hd i = true) : ho_cl K n (hd ||| ho_bit g) := by
  have h40 := h.1
  intro k hk
  rw [hb_orbit (by omega)] at hk
  rcases hk with hk | hk
  · exact ⟨(hc k hk).1, fun i hi => (hb_orbit (by omega)).mpr (Or.inl ((hc k hk).2 i hi))⟩
  · subst hk
    exact ⟨hg, fun i hi => (hb_orbit (by omega)).mpr (Or.inl (hl i hi))⟩
theorem ho_hds_in (h : ho_ok K n) (hc : ho_cl K n hd) {g : Nat} (hg : g < n) (hn : ¬ hb hd g = true) (hl : ∀ i, hb (K g).2.2.1 i = true → hb hd i = true) (i : Nat) : hb (ho_hds K n (hd ||| ho_bit g)) i = true ↔ (hb (ho_hds K n hd) i = true ∧ ¬ hb (K g).2.2.1 i = true) ∨ i = g := by
  have h40 := h.1
  rw [ho_hds_hb, ho_hds_hb, hb_orbit (by omega)]
  constructor
  · rintro ⟨h1 | h1, h2⟩
    · left
      refine ⟨⟨h1, fun k hk hk2 => h2 k hk ((hb_orbit (by omega)).mpr (Or.inl hk2))⟩, fun z => ?_⟩
      exact h2 g hg ((hb_orbit (by omega)).mpr (Or.inr rfl)) ((ho_ps_iff h hg).mpr (Or.inl z))
    · exact Or.inr h1
  · rintro (⟨⟨h1, h2⟩, h3⟩ | h1)
    · refine ⟨Or.inl h1, fun k hk hk2 z => ?_⟩
      rcases (hb_orbit (by omega)).mp hk2 with q | q
      · exact h2 k hk q z
      · subst q
        rcases (ho_ps_iff h hk).mp z with q | ⟨f, q1, q2⟩
        · exact h3 q
        · have := hc f (hl f q1)
          exact h2 f this.1 (hl f q1) q2
    · subst h1
      refine ⟨Or.inr rfl, fun k hk hk2 z => ?_⟩
      rcases (hb_orbit (by omega)).mp hk2 with q | q
      · exact hn (ho_cl_past h hc k q i z)
      · subst q
        exact absurd (ho_past_lt h k hk k z) (Nat.lt_irrefl _)
theorem srt_place {deep : Prop} {P : Nat → Prop} {L : List Nat} {p g : Nat} (hd' : ho_dis K n) (hs : ho_srt deep K P L) (hlt : ∀ x, x ∈ L → x < n) (hg : g < n) (hn : ¬ g ∈ L) (h1 : ∀ j, j < p → ho_bef deep K (L.getD j 0) g) (h2 : p < L.length → ¬ ho_bef deep K (L.getD p 0) g) (hp : p ≤ L.length) : ho_srt deep K (fun x => P x ∨ x = g) (L.take p ++ g :: L.drop p) := by
  refine ⟨fun x => ?_, srt_ins (by rw [List.take_append_drop]; exact hs.2) (fun a ha => ?_) (fun b hb' => ?_)⟩
  · show _ ↔ P x ∨ x = g
    rw [List.mem_append, List.mem_cons, ← hs.1 x]
    have : x ∈ L ↔ x ∈ L.take p ∨ x ∈ L.drop p := by rw [← List.mem_append, List.take_append_drop]
    rw [this]
    constructor
    · rintro (q | q | q)
      · exact Or.inl (Or.inl q)
      · exact Or.inr q
      · exact Or.inl (Or.inr q)
    · rintro ((q | q) | q)
      · exact Or.inl q
      · exact Or.inr (Or.inr q)
      · exact Or.inr (Or.inl q)
  · obtain ⟨j, hj⟩ := List.mem_iff_getElem?.mp ha
    have hjp : j < p := by
      have := (List.getElem?_eq_some_iff.mp hj).1
      rw [List.length_take] at this
      omega
    rw [List.getElem?_take_of_lt hjp] at hj
    have := h1 j hjp
    rw [List.getD_eq_getElem?_getD, hj] at this
    exact this
  · have hpl : p < L.length := by
      rcases Nat.lt_or_ge p L.length with q | q
      · exact q
      · rw [List.drop_eq_nil_of_le q] at hb'
        cases hb'
    have hb0 : ho_bef deep K g (L.getD p 0) := by
      have hm := getD_mem hpl
      rcases ho_bef_tt (deep := deep) hd' (hlt _ hm) hg (fun z => hn (z ▸ hm)) with q | q
      · exact absurd q (h2 hpl)
      · exact q
    have hpw : (L.drop p).Pairwise (ho_bef deep K) := hs.2.sublist (List.drop_sublist _ _)
    rw [List.drop_eq_getElem_cons hpl] at hpw hb'
    rw [List.getD_eq_getElem?_getD, List.getElem?_eq_getElem hpl] at hb0
    rcases List.mem_cons.mp hb' with q | q
    · rw [q]; exact hb0
    · exact ho_bef_tr hb0 ((List.pairwise_cons.mp hpw).1 b q)
end HCL
/-- the class holds this: the known ones, what is held and what waits at each replica, the drafts -/
def xR (ad mb : Nat → Nat) (K : Nat → ho_M) (n : Nat) (hd : Nat → Int64) (wt : Nat → List ho_O) (dr : Nat → ho_O) (w : fh_T) : Prop := ∃ ea Ls, xW ad ea mb K n Ls hd wt dr w ∧ Ls 0 = List.range n ∧ ho_ok K n ∧ (∀ r, r < 4 → (wt r).length ≤ 5 ∧ ∀ o, o ∈ wt r → o.2.2.length ≤ 4) ∧ ∀ r, r < 4 → ho_cl K n (hd r) ∧ ho_srt True K (fun g => hb (hd r) g = true) (Ls (1 + 2 * r)) ∧ ho_srt False K (fun g => hb (ho_hds K n (hd r)) g = true) (Ls (2 + 2 * r))
section XH
variable {ad ea mb : Nat → Nat} {K : Nat → ho_M} {n : Nat} {Ls : Nat → List Nat} {hd : Nat → Int64} {wt : Nat → List ho_O} {dr : Nat → ho_O} {w : fh_T}
theorem kx_before {post : Int32 → fh_T → Prop} {g f : Nat} (hg : xM ad w (mb g) g (K g)) (hf : xM ad w (mb f) f (K f)) (hdg : (K g).2.1 ≤ 40) (hdf : (K f).2.1 ≤ 40) (h : post (bI (ho_bef True K g f)) w) : wKXMe_standsBefore post w (mb g) (mb f) := by
  obtain ⟨oa, a1, la, lf, o1, -⟩ := hg
  obtain ⟨ob, b1, lb, lg, o2, -⟩ := hf
  refine ⟨_, ⟨_, a1, rfl⟩, _, ⟨_, b1, rfl⟩, ?_⟩
  rw [nI_eq (by omega) (by omega)]
  refine ⟨fun q => ⟨_, ⟨_, a1, rfl⟩, _, ⟨_, o1, rfl⟩, _, ⟨_, b1, rfl⟩, _, ⟨_, o2, rfl⟩, ?_⟩, fun q => ⟨_, ⟨_, a1, rfl⟩, _, ⟨_, b1, rfl⟩, ?_⟩⟩
  · rw [lg_cmp_ge]
    refine ⟨fun c => ?_, fun c => ?_⟩
    · rw [bI_f (P := ho_bef True K g f) (by
        rintro (⟨-, z⟩ | ⟨-, z⟩)
        · omega
        · exact absurd z (Int64.not_lt.mpr c))] at h
      exact h
    · rw [bI_t (P := ho_bef True K g f) (Or.inr ⟨fun _ => q, Int64.not_le.mp c⟩)] at h
      exact h
  · rw [nI_leI (by omega) (by omega)]
    refine ⟨fun c => ?_, fun c => ?_⟩
    · rw [bI_f (P := ho_bef True K g f) (by
        rintro (⟨-, z⟩ | ⟨z, -⟩)
        · omega
        · exact q (z trivial))] at h
      exact h
    · rw [bI_t (P := ho_bef True K g f) (Or.inl ⟨trivial, by omega⟩)] at h
      exact h
theorem kx_pio2 {post : Int32 → fh_T → Prop} {re row pl g : Nat} {L : List Nat} {v0 v2 v3 v4 : Value} (hre : w re = some (.inr (4, [v0, .ref row, v2, v3, v4]))) (hr : xRow w row pl mb L) (hm : ∀ x, x ∈ L → xM ad w (mb x) x (K x) ∧ (K x).2.1 ≤ 40) (hg : xM ad w (mb g) g (K g)) (hdg : (K g).2.1 ≤ 40) (h : ∀ p, p ≤ L.length → (∀ j, j < p → ho_bef True K (L.getD j 0) g) → (p < L.length → ¬ ho_bef True K (L.getD p 0) g) → post (nI p) w) : ∀ d k, k + d = L.length → (∀ j, j < k → ho_bef True K (L.getD j 0) g) → wKXRe_placeInOrder_2 post (d + 1) w re (mb g) (nI k) := by
  obtain ⟨r1, r2, f, r3, r4⟩ := hr
  intro d
  induction d with
  | zero =>
    intro k e hall
    have e : k = L.length := by omega
    subst e
    rw [wKXRe_placeInOrder_2_s]
    exact ⟨_, ⟨_, hre, rfl⟩, _, ⟨_, r1, rfl⟩, fun _ => h _ (Nat.le_refl _) hall (fun z => absurd z (Nat.lt_irrefl _)), fun c => absurd (nI_le (Nat.le_refl _) (by omega)) c⟩
  | succ d ih =>
    intro k e hall
    have hk : k < L.length := by omega
    obtain ⟨hx, hdx⟩ := hm _ (getD_mem hk)
    obtain ⟨oa, a1, -⟩ := id hx
    rw [wKXRe_placeInOrder_2_s]
    refine ⟨_, ⟨_, hre, rfl⟩, _, ⟨_, r1, rfl⟩, fun c => absurd c (nI_ge hk (by omega)), fun _ => ⟨_, ⟨_, hre, rfl⟩, _, ⟨_, r1, rfl⟩, _, _, _, r3, vp_in_nI (by omega) (by omega), by rw [tN (by omega)]; exact r4 k hk, _, a1, kx_before hx hg hdx hdg (bI_br (fun q => h k (by omega) hall (fun _ => q)) (fun q => ?_))⟩⟩
    rw [nI_1]
    refine ih (k + 1) (by omega) (fun j hj => ?_)
    by_cases z : j = k
    · rw [z]; exact q
    · exact hall j (by omega)
theorem kx_pih2 {post : Int32 → fh_T → Prop} {re row pl g : Nat} {L : List Nat} {v0 v1 v3 v4 : Value} (hre : w re = some (.inr (4, [v0, v1, .ref row, v3, v4]))) (hr : xRow w row pl mb L) (hm : ∀ x, x ∈ L → xM ad w (mb x) x (K x)) (hg : xM ad w (mb g) g (K g)) (h : ∀ p, p ≤ L.length → (∀ j, j < p → ho_bef False K (L.getD j 0) g) → (p < L.length → ¬ ho_bef False K (L.getD p 0) g) → post (nI p) w) : ∀ d k, k + d = L.length → (∀ j, j < k → ho_bef False K (L.getD j 0) g) → wKXRe_placeInHeads_2 post (d + 1) w re (mb g) (nI k) := by
  obtain ⟨r1, r2, f, r3, r4⟩ := hr
  obtain ⟨ob, b1, lb, lg, o2, -⟩ := hg
  intro d
  induction d with
  | zero =>
    intro k e hall
    have e : k = L.length := by omega
    subst e
    rw [wKXRe_placeInHeads_2_s]
    exact ⟨_, ⟨_, hre, rfl⟩, _, ⟨_, r1, rfl⟩, fun _ => h _ (Nat.le_refl _) hall (fun z => absurd z (Nat.lt_irrefl _)), fun c => absurd (nI_le (Nat.le_refl _) (by omega)) c⟩
  | succ d ih =>
    intro k e hall
    have hk : k < L.length := by omega
    obtain ⟨oa, a1, la, lf, o1, -⟩ := hm _ (getD_mem hk)
    rw [wKXRe_placeInHeads_2_s]
    refine ⟨_, ⟨_, hre, rfl⟩, _, ⟨_, r1, rfl⟩, fun c => absurd c (nI_ge hk (by omega)), fun _ => ⟨_, ⟨_, hre, rfl⟩, _, ⟨_, r1, rfl⟩, _, _, _, r3, vp_in_nI (by omega) (by omega), by rw [tN (by omega)]; exact r4 k hk, _, ⟨_, a1, rfl⟩, _, ⟨_, o1, rfl⟩, _, ⟨_, b1, rfl⟩, _, ⟨_, o2, rfl⟩, ?_⟩⟩
    rw [lg_cmp_ge]
    refine ⟨fun c => h k (by omega) hall (fun _ => ?_), fun c => ?_⟩
    · rintro (⟨z, -⟩ | ⟨-, z⟩)
      · exact z
      · exact absurd z (Int64.not_lt.mpr c)
    · rw [nI_1]
      refine ih (k + 1) (by omega) (fun j hj => ?_)
      by_cases z : j = k
      · rw [z]; exact Or.inr ⟨fun q => absurd q (fun q => q), Int64.not_le.mp c⟩
      · exact hall j (by omega)
theorem ho_ok_dep (h : ho_ok K n) {g : Nat} (hg : g < n) : (K g).2.1 ≤ 40 := by
  have := (h.2.2 g hg).2.2.2.2.1
  have := h.1
  omega
/-- a known one that is not held, and whose links are, is held from now on -/
theorem kx_hold {post : fh_T → Prop} {r g : Nat} (hR : xR ad mb K n hd wt dr w) (hr : r < 4) (hg : g < n) (hn : ¬ hb (hd r) g = true) (hl : ∀ i, hb (K g).2.2.1 i = true → hb (hd r) i = true) (h : ∀ w', xF ad w w' → xR ad mb K n (va_up hd r (hd r ||| ho_bit g)) wt dr w' → post w') : wKXRe_hold post w (ad (25 + r)) (mb g) := by
  obtain ⟨ea, Ls, hW, h0, hok, hwt, hall⟩ := hR
  have h40 := hok.1
  obtain ⟨hcl, hso, hsh⟩ := hall r hr
  have hlen : ∀ {deep : Prop} {P : Nat → Prop} {L : List Nat}, ho_srt deep K P L → (∀ x, x ∈ L → x < n ∧ x ≠ g) → L.length < 40 := fun {deep P L} hs hx => by
    have := nodup_lt n (g :: L) (List.nodup_cons.mpr ⟨fun z => (hx g z).2 rfl, srt_nodup hs.2⟩) (fun x hx2 => by
      rcases List.mem_cons.mp hx2 with q | q
      · rw [q]; exact hg
      · exact (hx x q).1)
    simp at this
    omega
  obtain ⟨-, -, -, -, -, -, -, cre, -, cm, -⟩ := id hW
  obtain ⟨oa, m1, -⟩ := id (cm g hg)
  refine ⟨_, ⟨_, cre r hr, rfl⟩, _, ⟨_, m1, rfl⟩, _, cre r hr, Nat.le_of_ble_eq_true rfl, fun w6 e6 => ?_⟩
  obtain ⟨F6, W6⟩ := hW.held hr (x := hd r ||| ho_bit g) e6
  obtain ⟨-, -, -, -, -, -, cr6, cre6, -, cm6, clt6⟩ := id W6
  have ro6 := cr6 (1 + 2 * r) (by omega)
  rw [show 7 + 2 * (1 + 2 * r) = 9 + 4 * r by omega, show 8 + 2 * (1 + 2 * r) = 10 + 4 * r by omega] at ro6
  have lt6 := clt6 (1 + 2 * r) (by omega)
  have nin : ¬ g ∈ Ls (1 + 2 * r) := fun z => hn ((hso.1 g).mp z)
  refine ⟨_, ⟨_, cre6 r hr, rfl⟩, _, cre6 r hr, _, kx_pio2 (K := K) (cre6 r hr) ro6 (fun x hx => ⟨cm6 x (lt6 x hx), ho_ok_dep hok (lt6 x hx)⟩) (cm6 g hg) (ho_ok_dep hok hg) (fun p hp hp1 hp2 => ⟨_, ro6.1, ?_⟩) _ 0 (Nat.zero_add _) (fun j hj => absurd hj (Nat.not_lt_zero _))⟩
  have s1 := srt_place hok.2.1 hso lt6 hg nin hp1 hp2 hp
  obtain ⟨og, mg6, -⟩ := id (cm6 g hg)
  refine kx_insert ro6 mg6 (fun x hx => ?_) hp (hlen hso (fun x hx => ⟨lt6 x hx, fun z => nin (z ▸ hx)⟩)) (fun w7 fr7 row7 => ?_)
  · obtain ⟨ox, mx, -⟩ := cm6 x (lt6 x hx)
    exact ⟨_, mx⟩
  have fr7' : ∀ a, a ≠ ad (7 + 2 * (1 + 2 * r)) → a ≠ ad (8 + 2 * (1 + 2 * r)) → w7 a = w6 a := by
    rw [show 7 + 2 * (1 + 2 * r) = 9 + 4 * r by omega, show 8 + 2 * (1 + 2 * r) = 10 + 4 * r by omega]
    exact fr7
  have R7 : xRow w7 (ad (7 + 2 * (1 + 2 * r))) (ad (8 + 2 * (1 + 2 * r))) mb ((Ls (1 + 2 * r)).take p ++ g :: (Ls (1 + 2 * r)).drop p) := by
    rw [show 7 + 2 * (1 + 2 * r) = 9 + 4 * r by omega, show 8 + 2 * (1 + 2 * r) = 10 + 4 * r by omega]
    exact row7 mb g (fun _ _ => rfl) rfl
  obtain ⟨F7, W7⟩ := W6.rowu (show 1 + 2 * r < 9 by omega) fr7' R7 (fun x hx => by
    rcases (s1.1 x).mp hx with q | q
    · exact (hcl x q).1
    · rw [q]; exact hg)
  obtain ⟨-, -, -, -, -, -, cr7, cre7, -, cm7, clt7⟩ := id W7
  have rh7 := cr7 (2 + 2 * r) (by omega)
  have lt7 := clt7 (2 + 2 * r) (by omega)
  rw [va_up_n (show 2 + 2 * r ≠ 1 + 2 * r by omega)] at rh7 lt7
  rw [show 7 + 2 * (2 + 2 * r) = 11 + 4 * r by omega, show 8 + 2 * (2 + 2 * r) = 12 + 4 * r by omega] at rh7
  obtain ⟨og7, mg7, -⟩ := id (cm7 g hg)
  refine ⟨_, ⟨_, cre7 r hr, rfl⟩, _, ⟨_, mg7, rfl⟩, _, rh7.1, kx_removeAll (M := K) rh7 (fun x hx => ⟨by have := lt7 x hx; omega, cm7 x (lt7 x hx)⟩) (fun w8 fr8 row8 => ?_)⟩
  have s2 : ho_srt False K (fun x => hb (ho_hds K n (hd r)) x = true ∧ ¬ hb (K g).2.2.1 x = true) ((Ls (2 + 2 * r)).filter (fun x => !hb (K g).2.2.1 x)) := by
    refine ⟨fun x => ?_, hsh.2.filter _⟩
    rw [List.mem_filter, hsh.1 x]
    refine and_congr Iff.rfl ?_
    cases hb (K g).2.2.1 x <;> simp
  have fr8' : ∀ a, a ≠ ad (7 + 2 * (2 + 2 * r)) → a ≠ ad (8 + 2 * (2 + 2 * r)) → w8 a = w7 a := by
    rw [show 7 + 2 * (2 + 2 * r) = 11 + 4 * r by omega, show 8 + 2 * (2 + 2 * r) = 12 + 4 * r by omega]
    exact fr8
  have R8 : xRow w8 (ad (7 + 2 * (2 + 2 * r))) (ad (8 + 2 * (2 + 2 * r))) mb ((Ls (2 + 2 * r)).filter (fun x => !hb (K g).2.2.1 x)) := by
    rw [show 7 + 2 * (2 + 2 * r) = 11 + 4 * r by omega, show 8 + 2 * (2 + 2 * r) = 12 + 4 * r by omega]
    exact row8
  obtain ⟨F8, W8⟩ := W7.rowu (show 2 + 2 * r < 9 by omega) fr8' R8 (fun x hx => lt7 x (List.mem_filter.mp hx).1)
  obtain ⟨-, -, -, -, -, -, cr8, cre8, -, cm8, clt8⟩ := id W8
  have rh8 := cr8 (2 + 2 * r) (by omega)
  have lt8 := clt8 (2 + 2 * r) (by omega)
  rw [va_up_s] at rh8 lt8
  rw [show 7 + 2 * (2 + 2 * r) = 11 + 4 * r by omega, show 8 + 2 * (2 + 2 * r) = 12 + 4 * r by omega] at rh8
  have nin2 : ¬ g ∈ (Ls (2 + 2 * r)).filter (fun x => !hb (K g).2.2.1 x) := fun z => hn (ho_hds_hb.mp ((s2.1 g).mp z).1).1
  refine ⟨_, ⟨_, cre8 r hr, rfl⟩, _, cre8 r hr, _, kx_pih2 (K := K) (cre8 r hr) rh8 (fun x hx => cm8 x (lt8 x hx)) (cm8 g hg) (fun p2 hp2 hq1 hq2 => ⟨_, rh8.1, ?_⟩) _ 0 (Nat.zero_add _) (fun j hj => absurd hj (Nat.not_lt_zero _))⟩
  have s3 := srt_place hok.2.1 s2 lt8 hg nin2 hq1 hq2 hp2
  obtain ⟨og8, mg8, -⟩ := id (cm8 g hg)
  refine kx_insert rh8 mg8 (fun x hx => ?_) hp2 (hlen s2 (fun x hx => ⟨lt8 x hx, fun z => nin2 (z ▸ hx)⟩)) (fun w9 fr9 row9 => ?_)
  · obtain ⟨ox, mx, -⟩ := cm8 x (lt8 x hx)
    exact ⟨_, mx⟩
  have fr9' : ∀ a, a ≠ ad (7 + 2 * (2 + 2 * r)) → a ≠ ad (8 + 2 * (2 + 2 * r)) → w9 a = w8 a := by
    rw [show 7 + 2 * (2 + 2 * r) = 11 + 4 * r by omega, show 8 + 2 * (2 + 2 * r) = 12 + 4 * r by omega]
    exact fr9
  have R9 := row9 mb g (fun _ _ => rfl) rfl
  rw [show 11 + 4 * r = 7 + 2 * (2 + 2 * r) by omega, show 12 + 4 * r = 8 + 2 * (2 + 2 * r) by omega] at R9
  obtain ⟨F9, W9⟩ := W8.rowu (show 2 + 2 * r < 9 by omega) fr9' R9 (fun x hx => by
    rcases (s3.1 x).mp hx with q | q
    · exact (hcl x (ho_hds_hb.mp q.1).1).1
    · rw [q]; exact hg)
  refine h w9 (F6.tr (F7.tr (F8.tr F9))) ⟨_, _, W9, ?_, hok, hwt, fun s hs => ?_⟩
  · rw [va_up_n (by omega), va_up_n (by omega), va_up_n (by omega)]
    exact h0
  · by_cases q : s = r
    · subst q
      rw [va_up_s, va_up_n (show 1 + 2 * s ≠ 2 + 2 * s by omega), va_up_n (show 1 + 2 * s ≠ 2 + 2 * s by omega), va_up_s, va_up_s]
      refine ⟨ho_cl_in hok hcl hg hl, ⟨fun x => (s1.1 x).trans (hb_orbit (by omega)).symm, s1.2⟩, ⟨fun x => (s3.1 x).trans (ho_hds_in hok hcl hg hn hl x).symm, s3.2⟩⟩
    · rw [va_up_n q, va_up_n (by omega), va_up_n (by omega), va_up_n (by omega), va_up_n (by omega), va_up_n (by omega), va_up_n (by omega)]
      exact hall s hs
end XH
