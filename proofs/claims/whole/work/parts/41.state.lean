/-! the whole state, coming, bringing, meeting: as mathematics, and the reference's -/
abbrev ho_A : Type := (Nat → ho_M) × Nat × (Nat → Int64) × (Nat → List ho_O)
def ho_view (A : ho_A) (r : Nat) : ho_V := (A.1, A.2.1, A.2.2.1 r, A.2.2.2 r)
noncomputable def ho_T (S : ho_V) : ho_V := @Classical.epsilon ho_V ⟨S⟩ (fun T => ho_runs 10 S T)
theorem ho_T_runs {S : ho_V} (h : ho_vok S) : ho_runs 10 S (ho_T S) := Classical.epsilon_spec (ho_drain10 h)
noncomputable def ho_cA (A : ho_A) (r : Nat) (o : ho_O) : ho_A := ((ho_T (ho_come1 (ho_view A r) o).1).1, (ho_T (ho_come1 (ho_view A r) o).1).2.1, va_up A.2.2.1 r (ho_T (ho_come1 (ho_view A r) o).1).2.2.1, va_up A.2.2.2 r (ho_T (ho_come1 (ho_view A r) o).1).2.2.2)
noncomputable def ho_ca (A : ho_A) (r : Nat) (o : ho_O) : Int32 := (ho_come1 (ho_view A r) o).2
def mR (A : ho_A) (dq : ho_O) (I : Nat → Nat → Int32) (J : Nat → Nat → Int64) (cn : Int32) : Prop := mRep A.1 A.2.1 A.2.2.1 A.2.2.2 dq I J cn
def xA (ad mb : Nat → Nat) (A : ho_A) (dr : Nat → ho_O) (w : fh_T) : Prop := xR ad mb A.1 A.2.1 A.2.2.1 A.2.2.2 dr w
def ho_gr (S : ho_V) (T : ho_V) : Prop := S.2.1 ≤ T.2.1 ∧ ∀ g, g < S.2.1 → T.1 g = S.1 g
theorem ho_gr.tr {S T U : ho_V} (h : ho_gr S T) (h2 : ho_gr T U) : ho_gr S U := ⟨Nat.le_trans h.1 h2.1, fun g hg => by rw [h2.2 g (Nat.lt_of_lt_of_le hg h.1), h.2 g hg]⟩
theorem ho_come1_gr (S : ho_V) (o : ho_O) : ho_gr S (ho_come1 S o).1 := by
  obtain ⟨K, n, hd, wt⟩ := S
  cases q : ho_find K o.1 n with
  | some g =>
    by_cases c1 : hb hd g = true
    · rw [ho_c_held q c1]; exact ⟨Nat.le_refl _, fun _ _ => rfl⟩
    · by_cases c2 : ho_shape (K g).1
      · by_cases c3 : ho_lh K n hd (K g).1.2.2
        · rw [ho_c_kin q c1 c2 c3]; exact ⟨Nat.le_refl _, fun _ _ => rfl⟩
        · rw [ho_c_kwait q c1 c2 c3]; exact ⟨Nat.le_refl _, fun _ _ => rfl⟩
      · rw [ho_c_kshape q c1 c2]; exact ⟨Nat.le_refl _, fun _ _ => rfl⟩
  | none =>
    by_cases c2 : ho_shape o
    · by_cases c3 : ho_lh K n hd o.2.2
      · by_cases c4 : n < 40 ∧ ho_right K n (ho_cand K n o)
        · rw [ho_c_in q c2 c3 c4]; exact ⟨Nat.le_succ _, fun g hg => ho_put_lt hg⟩
        · rw [ho_c_not q c2 c3 c4]; exact ⟨Nat.le_refl _, fun _ _ => rfl⟩
      · rw [ho_c_wait q c2 c3]; exact ⟨Nat.le_refl _, fun _ _ => rfl⟩
    · rw [ho_c_shape q c2]; exact ⟨Nat.le_refl _, fun _ _ => rfl⟩
theorem ho_runs_gr : ∀ (k : Nat) {S T : ho_V}, ho_runs k S T → ho_gr S T
  | 0, S, T, h => by rw [h.2]; exact ⟨Nat.le_refl _, fun _ _ => rfl⟩
  | k + 1, S, T, h => by
    rcases h with ⟨-, h⟩ | ⟨i, -, h⟩
    · rw [h]; exact ⟨Nat.le_refl _, fun _ _ => rfl⟩
    · exact ho_gr.tr (ho_come1_gr (S.1, S.2.1, S.2.2.1, S.2.2.2.eraseIdx i) _) (ho_runs_gr k h)
theorem ho_cA_gr {A : ho_A} {r : Nat} {o : ho_O} (hv : ho_vok (ho_view A r)) (hl : o.2.2.length ≤ 4) : A.2.1 ≤ (ho_cA A r o).2.1 ∧ ∀ g, g < A.2.1 → (ho_cA A r o).1 g = A.1 g := (ho_come1_gr (ho_view A r) o).tr (ho_runs_gr 10 (ho_T_runs (ho_come1_ok hv hl)))
noncomputable def ho_br (r : Nat) : List Nat → ho_A → ho_A
  | [], A => A
  | g :: L, A => ho_br r L (ho_cA A r (A.1 g).1)
/-- what is lacked after one more round -/
def ho_nx (K : Nat → ho_M) (n : Nat) (h l g : Int64) : Int64 := ho_ls K l n &&& ((h ||| (g ||| l)) ^^^ (-1))
noncomputable def ho_rd (K : Nat → ho_M) (n : Nat) (h1 h2 : Int64) : Nat → Int64 → Int64 → Int64 → Int64 → Nat → Int64 × Int64 × Nat
  | 0, _, g1, _, g2, r => (g1, g2, r)
  | f + 1, l1, g1, l2, g2, r => cif (l1 = 0 ∧ l2 = 0) (g1, g2, r) (ho_rd K n h1 h2 f (ho_nx K n h1 l1 g1) (g1 ||| l1) (ho_nx K n h2 l2 g2) (g2 ||| l2) (r + 1))
noncomputable def ho_mt (A : ho_A) (a b : Nat) : Int64 × Int64 × Nat := ho_rd A.1 A.2.1 (A.2.2.1 a) (A.2.2.1 b) 40 (ho_hds A.1 A.2.1 (A.2.2.1 b) &&& (A.2.2.1 a ^^^ (-1))) 0 (ho_hds A.1 A.2.1 (A.2.2.1 a) &&& (A.2.2.1 b ^^^ (-1))) 0 0
/-- the asker lacks l and has got g after r rounds; the teller holds ht -/
def ho_ai (ht l g : Int64) (r : Nat) : Prop := (∀ i, hb l i = true → hb ht i = true ∧ hb g i = false) ∧ (∀ i, hb g i = true → hb ht i = true) ∧ (l ≠ 0 → r ≤ ho_cnt g 40)
section HRD
variable {K : Nat → ho_M} {n : Nat}
theorem ho_ls_0 : ho_ls K 0 n = 0 := hb_ext fun i _ => by
  rw [hb_0]
  cases q : hb (ho_ls K 0 n) i with
  | false => rfl
  | true =>
    obtain ⟨g, -, h2, -⟩ := (ho_ls_hb K 0 i n).mp q
    rw [hb_0] at h2
    cases h2
theorem ho_ai_nx {h ht l g : Int64} {r : Nat} (hok : ho_ok K n) (hc : ho_cl K n ht) (ha : ho_ai ht l g r) : ho_ai ht (ho_nx K n h l g) (g ||| l) (r + 1) := by
  have h40 := hok.1
  refine ⟨fun i hi => ?_, fun i hi => ?_, fun hi => ?_⟩
  · have hi64 : i < 64 := by
      rcases Nat.lt_or_ge i 64 with q | q
      · exact q
      · rw [hb_ge q] at hi; cases hi
    rw [ho_nx, hb_and, hb_not hi64, hb_or, Bool.and_eq_true] at hi
    obtain ⟨f, h1, h2, h3⟩ := (ho_ls_hb K l i n).mp hi.1
    refine ⟨(hc f (ha.1 f h2).1).2 i h3, ?_⟩
    have := hi.2
    cases q : hb (g ||| l) i with
    | false => rfl
    | true => rw [q, Bool.or_true] at this; cases this
  · rw [hb_or, Bool.or_eq_true] at hi
    rcases hi with hi | hi
    · exact ha.2.1 i hi
    · exact (ha.1 i hi).1
  · have hl : l ≠ 0 := fun z => hi (by
      rw [z, ho_nx, ho_ls_0]
      exact hb_ext fun i _ => by rw [hb_and, hb_0, Bool.false_and])
    have h1 := ha.2.2 hl
    obtain ⟨i, -, h2⟩ := hb_ne0.mp hl
    have h3 := (hc i (ha.1 i h2).1).1
    have := (ho_cnt_or (fun i hi => (ha.1 i hi).2) 40).2 ⟨i, by omega, h2⟩
    omega
theorem ho_ai_end {ht l g : Int64} (hok : ho_ok K n) (hc : ho_cl K n ht) (ha : ho_ai ht l g 40) : l = 0 := by
  rcases Classical.em (l = 0) with q | q
  · exact q
  · have h1 := ha.2.2 q
    have h40 := hok.1
    obtain ⟨i, -, h2⟩ := hb_ne0.mp q
    have h3 := (hc i (ha.1 i h2).1).1
    have := (ho_cnt_or (fun i hi => (ha.1 i hi).2) 40).2 ⟨i, by omega, h2⟩
    have := ho_cnt_le (g ||| l) 40
    omega
theorem ho_ai_0 {h ht : Int64} (hc : ho_cl K n ht) : ho_ai ht (ho_hds K n ht &&& (h ^^^ (-1))) 0 0 := by
  refine ⟨fun i hi => ?_, fun i hi => ?_, fun _ => Nat.zero_le _⟩
  · rw [hb_and, Bool.and_eq_true] at hi
    exact ⟨(ho_hds_hb.mp hi.1).1, hb_0 i⟩
  · rw [hb_0] at hi; cases hi
theorem ho_rd_in {h1 h2 t1 t2 : Int64} (hok : ho_ok K n) (hc1 : ho_cl K n t1) (hc2 : ho_cl K n t2) : ∀ f l1 g1 l2 g2 r, ho_ai t1 l1 g1 r → ho_ai t2 l2 g2 r → (∀ i, hb (ho_rd K n h1 h2 f l1 g1 l2 g2 r).1 i = true → hb t1 i = true) ∧ (∀ i, hb (ho_rd K n h1 h2 f l1 g1 l2 g2 r).2.1 i = true → hb t2 i = true) := by
  intro f
  induction f with
  | zero =>
    intro l1 g1 l2 g2 r a1 a2
    exact ⟨a1.2.1, a2.2.1⟩
  | succ f ih =>
    intro l1 g1 l2 g2 r a1 a2
    rw [ho_rd]
    by_cases q : l1 = 0 ∧ l2 = 0
    · rw [cif_t q]
      exact ⟨a1.2.1, a2.2.1⟩
    · rw [cif_f q]
      exact ih _ _ _ _ _ (ho_ai_nx hok hc1 a1) (ho_ai_nx hok hc2 a2)
theorem ho_mt_in {A : ho_A} {a b : Nat} (hok : ho_ok A.1 A.2.1) (ha : ho_cl A.1 A.2.1 (A.2.2.1 a)) (hb' : ho_cl A.1 A.2.1 (A.2.2.1 b)) : (∀ i, hb (ho_mt A a b).1 i = true → hb (A.2.2.1 b) i = true) ∧ (∀ i, hb (ho_mt A a b).2.1 i = true → hb (A.2.2.1 a) i = true) := ho_rd_in hok hb' ha 40 _ _ _ _ 0 (ho_ai_0 hb') (ho_ai_0 ha)
end HRD
section MPB
variable {I : Nat → Nat → Int32} {J : Nat → Nat → Int64} {cn : Int32} {cm : Int64} {so : Int32} {A : ho_A} {dq : ho_O} {r : Nat}
theorem mR.vok (h : mR A dq I J cn) (hr : r < 4) : ho_vok (ho_view A r) := mRep.vok h hr
theorem mR.kn (h : mR A dq I J cn) : mKn A.1 A.2.1 I J cn := h.2.1
theorem pm_comeA {post : Int32 → (Nat → Nat → Int32) → (Nat → Nat → Int64) → Int32 → Int64 → Int32 → Prop} {o : ho_O} (hR : mR A dq I J cn) (hr : r < 4) (ho : mNum (I 9) (J 7) o) (hcm : cm = o.1) (h : ∀ I' J' cn' cm', mR (ho_cA A r o) dq I' J' cn' → post (ho_ca A r o) I' J' cn' cm' so) : wMcome post I J cn cm so (nI r) := pm_come hR hr ho hcm (ho_T_runs (ho_come1_ok (hR.vok hr) ho.2.2.2.2.2.1)) h
theorem pm_sort1 {post : (Nat → Nat → Int32) → (Nat → Nat → Int64) → Int32 → Int64 → Int32 → Prop} {K : Nat → ho_M} {n : Nat} {set : Int64} {L : List Nat} (hk : mKn K n I J cn) (hL : ho_srt True K (fun g => g < n ∧ hb set g = true) L) (h : ∀ I', (∀ k, k ≠ 10 → I' k = I k) → mOrd I' L → post I' J cn cm (nI L.length)) : wMsort post I J cn cm so set 1 := by
  have := pm_sort (post := post) (cm := cm) (so := so) (set := set) True hk (fun I' L' h1 h2 h3 => by
    have e := srt_uniq h3 hL
    subst e
    exact h I' h1 h2)
  rw [bI_t trivial] at this
  exact this
theorem mRep_ord {I' : Nat → Nat → Int32} (h : mR A dq I J cn) (h1 : ∀ k, k ≠ 10 → I' k = I k) : mR A dq I' J cn := mRep.fr h ⟨fun k _ h3 => h1 k h3, fun _ _ => rfl⟩
theorem pm_bring9 {post : (Nat → Nat → Int32) → (Nat → Nat → Int64) → Int32 → Int64 → Int32 → Prop} {K0 : Nat → ho_M} {n0 : Nat} {set : Int64} {L : List Nat} (hr : r < 4) (hset : ∀ i, hb set i = true → i < n0) (hL : ho_srt True K0 (fun g => g < n0 ∧ hb set g = true) L) (hl40 : L.length ≤ 40) : ∀ (Q P : List Nat) (A : ho_A) (I : Nat → Nat → Int32) (J : Nat → Nat → Int64) (cn : Int32) (cm : Int64), P ++ Q = L → n0 ≤ A.2.1 → (∀ g, g < n0 → A.1 g = K0 g) → mR A dq I J cn → mOrd I L → (∀ I' J' cn' cm' so', mR (ho_br r Q A) dq I' J' cn' → post I' J' cn' cm' so') → wMbring_9 post (Q.length + 1) I J cn cm (nI L.length) (nI r) set (nI P.length) := by
  intro Q
  induction Q with
  | nil =>
    intro P A I J cn cm e hn hg hR hO h
    rw [List.append_nil] at e
    subst e
    rw [List.length_nil, wMbring_9_s]
    exact ⟨fun _ => h _ _ _ _ _ hR, fun c => absurd (nI_le (Nat.le_refl _) (by omega)) c⟩
  | cons g Q ih =>
    intro P A I J cn cm e hn hg hR hO h
    have hlen : L.length = P.length + (Q.length + 1) := by rw [← e, List.length_append, List.length_cons]
    have hgL : g ∈ L := by rw [← e]; exact List.mem_append_right _ List.mem_cons_self
    have hgn : g < n0 := ((hL.1 g).mp hgL).1
    have hget : L.getD P.length 0 = g := by
      rw [← e, List.getD_eq_getElem?_getD, List.getElem?_append_right (Nat.le_refl _), Nat.sub_self]
      rfl
    rw [List.length_cons, wMbring_9_s]
    refine ⟨fun c => absurd c (nI_ge (by omega) (by omega)), fun _ => ⟨vp_in_nI (by omega) (by omega), ?_⟩⟩
    rw [tN (show P.length < 2 ^ 31 by omega), hO P.length (by omega), hget]
    refine pm_become hR.kn (by omega) (fun I1 J1 cm1 f1 m1 e1 => ?_)
    have hR1 : mR A dq I1 J1 cn := mRep.fr hR f1
    have hv := hR1.vok hr
    refine pm_comeA hR1 hr m1 e1 (fun I2 J2 cn2 cm2 hR2 => ?_)
    obtain ⟨k1, k2⟩ := ho_cA_gr (o := (A.1 g).1) hv m1.2.2.2.2.2.1
    have hn' : n0 ≤ (ho_cA A r (A.1 g).1).2.1 := by omega
    have hg' : ∀ x, x < n0 → (ho_cA A r (A.1 g).1).1 x = K0 x := fun x hx => by rw [k2 x (by omega), hg x hx]
    refine pm_sort1 hR2.kn (L := L) ⟨fun x => (hL.1 x).trans ⟨fun z => ⟨by omega, z.2⟩, fun z => ⟨hset x z.2, z.2⟩⟩, srt_ext hL.2 (fun x hx => hg' x ((hL.1 x).mp hx).1)⟩ (fun I3 h3 o3 => ?_)
    have := ih (P ++ [g]) (ho_cA A r (A.1 g).1) I3 J2 cn2 cm2 (by rw [List.append_assoc]; exact e) hn' hg' (mRep_ord hR2 h3) o3 h
    rw [List.length_append] at this
    rw [nI_1]
    exact this
theorem srt_len {deep : Prop} {K : Nat → ho_M} {P : Nat → Prop} {n : Nat} {L : List Nat} (hL : ho_srt deep K P L) (h : ∀ g, P g → g < n) : L.length ≤ n := nodup_lt n L (srt_nodup hL.2) (fun g hg => h g ((hL.1 g).mp hg))
theorem pm_bring {post : (Nat → Nat → Int32) → (Nat → Nat → Int64) → Int32 → Int64 → Int32 → Prop} {K0 : Nat → ho_M} {n0 : Nat} {set : Int64} {L : List Nat} (hR : mR A dq I J cn) (hr : r < 4) (hset : ∀ i, hb set i = true → i < n0) (hn0 : n0 ≤ A.2.1) (hg0 : ∀ g, g < n0 → A.1 g = K0 g) (hL : ho_srt True K0 (fun g => g < n0 ∧ hb set g = true) L) (h : ∀ I' J' cn' cm' so', mR (ho_br r L A) dq I' J' cn' → post I' J' cn' cm' so') : wMbring post I J cn cm so (nI r) set := by
  have h40 : A.2.1 ≤ 40 := hR.kn.1
  have hl := srt_len hL (fun g q => q.1)
  refine pm_sort1 hR.kn (L := L) ⟨fun x => (hL.1 x).trans ⟨fun z => ⟨by omega, z.2⟩, fun z => ⟨hset x z.2, z.2⟩⟩, srt_ext hL.2 (fun x hx => hg0 x ((hL.1 x).mp hx).1)⟩ (fun I3 h3 o3 => ⟨_, pm_bring9 hr hset hL (by omega) L [] A I3 J cn cm rfl hn0 hg0 (mRep_ord hR h3) o3 h⟩)
def ho_aok (A : ho_A) : Prop := ∀ r, r < 4 → ho_vok (ho_view A r)
theorem ho_cA_ok {A : ho_A} {r : Nat} {o : ho_O} (h : ho_aok A) (hr : r < 4) (hl : o.2.2.length ≤ 4) : ho_aok (ho_cA A r o) := by
  have h1 := ho_runs_ok 10 (ho_come1_ok (h r hr) hl) (ho_T_runs (ho_come1_ok (h r hr) hl))
  intro s hs
  refine ⟨h1.1, ?_⟩
  show (va_up A.2.2.2 r (ho_T (ho_come1 (ho_view A r) o).1).2.2.2 s).length ≤ 5 ∧ ∀ o', o' ∈ va_up A.2.2.2 r (ho_T (ho_come1 (ho_view A r) o).1).2.2.2 s → o'.2.2.length ≤ 4
  by_cases q : s = r
  · subst q
    rw [va_up_s]
    exact h1.2
  · rw [va_up_n q]
    exact (h s hs).2
theorem ho_br_gr {r : Nat} (hr : r < 4) : ∀ (L : List Nat) (A : ho_A), ho_aok A → (∀ g, g ∈ L → g < A.2.1) → ho_aok (ho_br r L A) ∧ A.2.1 ≤ (ho_br r L A).2.1 ∧ ∀ g, g < A.2.1 → (ho_br r L A).1 g = A.1 g
  | [], A, hA, _ => ⟨hA, Nat.le_refl _, fun _ _ => rfl⟩
  | g :: L, A, hA, hL => by
    have hg := hL g List.mem_cons_self
    have hl : (A.1 g).1.2.2.length ≤ 4 := ((hA r hr).1.2.2 g hg).2.2.2.2.2
    obtain ⟨k1, k2⟩ := ho_cA_gr (hA r hr) hl
    obtain ⟨j0, j1, j2⟩ := ho_br_gr hr L (ho_cA A r (A.1 g).1) (ho_cA_ok hA hr hl) (fun x hx => by have := hL x (List.mem_cons_of_mem _ hx); omega)
    exact ⟨j0, Nat.le_trans k1 j1, fun x hx => by rw [← k2 x hx]; exact j2 x (by omega)⟩
theorem pm_meet46 {post : Int32 → (Nat → Nat → Int32) → (Nat → Nat → Int64) → Int32 → Int64 → Int32 → Prop} {a b : Nat} (hR : mR A dq I J cn) (ha : a < 4) (hb' : b < 4) (hca : ho_cl A.1 A.2.1 (A.2.2.1 a)) (hcb : ho_cl A.1 A.2.1 (A.2.2.1 b)) {X : Int64 × Int64 × Nat} (h : wMbring (fun I_9 J_9 cn_9 cm_9 so_9 => wMbring (fun I_10 J_10 cn_10 cm_10 so_10 => post (nI X.2.2) I_10 J_10 cn_10 cm_10 so_10) I_9 J_9 cn_9 cm_9 so_9 (nI b) X.2.1) I J cn cm so (nI a) X.1) : ∀ f r t1 t2 l1 g1 l2 g2, r + f = 40 → ho_ai (A.2.2.1 b) l1 g1 r → ho_ai (A.2.2.1 a) l2 g2 r → l1 = (t1 &&& (A.2.2.1 a ^^^ (-1))) &&& (g1 ^^^ (-1)) → l2 = (t2 &&& (A.2.2.1 b ^^^ (-1))) &&& (g2 ^^^ (-1)) → X = ho_rd A.1 A.2.1 (A.2.2.1 a) (A.2.2.1 b) f l1 g1 l2 g2 r → wMmeet_46 post (f + 2) I J cn cm so (nI a) (nI b) t1 t2 g1 g2 (nI r) 1 := by
  have hok : ho_ok A.1 A.2.1 := hR.1
  have ja : J 3 a = A.2.2.1 a := hR.2.2.1 a ha
  have jb : J 3 b = A.2.2.1 b := hR.2.2.1 b hb'
  have nxt : ∀ (h t l g : Int64), l = (t &&& (h ^^^ (-1))) &&& (g ^^^ (-1)) → ho_nx A.1 A.2.1 h l g = ((t ||| ho_ls A.1 l A.2.1) &&& (h ^^^ (-1))) &&& ((g ||| l) ^^^ (-1)) := fun h t l g e => hb_ext fun i hi => by
    have el : hb l i = (hb t i && !hb h i && !hb g i) := by
      have this : hb l i = hb ((t &&& (h ^^^ (-1))) &&& (g ^^^ (-1))) i := congrArg (fun x => hb x i) e
      rw [this, hb_and, hb_and, hb_not hi, hb_not hi]
    rw [ho_nx, hb_and, hb_not hi, hb_or, hb_or, hb_and, hb_and, hb_not hi, hb_not hi, hb_or, hb_or, el]
    cases hb (ho_ls A.1 l A.2.1) i <;> cases hb t i <;> cases hb h i <;> cases hb g i <;> rfl
  intro f
  induction f with
  | zero =>
    intro r t1 t2 l1 g1 l2 g2 e a1 a2 e1 e2 eX
    have er : r = 40 := by omega
    subst er
    have z1 := ho_ai_end hok hcb a1
    have z2 := ho_ai_end hok hca a2
    rw [wMmeet_46_s, tN (by omega), tN (by omega), ja, jb]
    refine ⟨fun c => absurd c (by decide), fun _ => ⟨vp_in_nI ha (by omega), fun x12 ex => ⟨vp_in_nI hb' (by omega), fun x14 ey => ?_⟩⟩⟩
    rw [← e1, z1] at ex
    rw [← e2, z2] at ey
    subst ex
    subst ey
    rw [lg_cmp_eq]
    refine ⟨fun c => absurd rfl c, fun _ => ⟨fun _ => ⟨fun _ => pm_linkSet hok hR.kn (pm_linkSet hok hR.kn ?_), fun c => absurd rfl c⟩, fun c => absurd rfl c⟩⟩
    rw [hb_or0 g1, hb_or0 g2, wMmeet_46_s]
    rw [ho_rd] at eX
    rw [eX] at h
    exact ⟨fun _ => h, fun c => absurd rfl c⟩
  | succ f ih =>
    intro r t1 t2 l1 g1 l2 g2 e a1 a2 e1 e2 eX
    rw [wMmeet_46_s, tN (by omega), tN (by omega), ja, jb]
    refine ⟨fun c => absurd c (by decide), fun _ => ⟨vp_in_nI ha (by omega), fun x12 ex => ⟨vp_in_nI hb' (by omega), fun x14 ey => ?_⟩⟩⟩
    rw [← e1] at ex
    rw [← e2] at ey
    subst ex
    subst ey
    rw [lg_cmp_eq, lg_cmp_eq]
    rw [ho_rd] at eX
    have go : ¬ (x12 = 0 ∧ x14 = 0) → wMmeet_108 post (wMmeet_46 post (f + 2)) I J cn cm so (nI a) (nI b) t1 t2 g1 g2 (nI r) x12 x14 := fun q => by
      rw [cif_f q] at eX
      refine ⟨fun c => absurd c (by decide), fun _ => pm_linkSet hok hR.kn (pm_linkSet hok hR.kn ?_)⟩
      rw [nI_1]
      exact ih (r + 1) _ _ _ _ _ _ (by omega) (ho_ai_nx hok hcb a1) (ho_ai_nx hok hca a2) (nxt _ _ _ _ e1) (nxt _ _ _ _ e2) eX
    refine ⟨fun c => go (fun z => c z.1), fun c => ⟨fun c2 => ?_, fun c2 => go (fun z => c2 z.2)⟩⟩
    rw [cif_t ⟨c, c2⟩] at eX
    refine ⟨fun _ => pm_linkSet hok hR.kn (pm_linkSet hok hR.kn ?_), fun q => absurd rfl q⟩
    rw [c, c2, hb_or0 g1, hb_or0 g2, wMmeet_46_s]
    rw [eX] at h
    exact ⟨fun _ => h, fun c => absurd rfl c⟩
theorem pm_meet {post : Int32 → (Nat → Nat → Int32) → (Nat → Nat → Int64) → Int32 → Int64 → Int32 → Prop} {a b : Nat} {L1 L2 : List Nat} (hR : mR A dq I J cn) (ha : a < 4) (hb' : b < 4) (hab : a ≠ b) (hca : ho_cl A.1 A.2.1 (A.2.2.1 a)) (hcb : ho_cl A.1 A.2.1 (A.2.2.1 b)) (hL1 : ho_srt True A.1 (fun g => g < A.2.1 ∧ hb (ho_mt A a b).1 g = true) L1) (hL2 : ho_srt True A.1 (fun g => g < A.2.1 ∧ hb (ho_mt A a b).2.1 g = true) L2) (h : ∀ I' J' cn' cm' so', mR (ho_br b L2 (ho_br a L1 A)) dq I' J' cn' → post (nI (ho_mt A a b).2.2) I' J' cn' cm' so') : wMmeet post I J cn cm so (nI a) (nI b) := by
  have ja : J 3 a = A.2.2.1 a := hR.2.2.1 a ha
  have jb : J 3 b = A.2.2.1 b := hR.2.2.1 b hb'
  have hok : ho_ok A.1 A.2.1 := hR.1
  have hA : ho_aok A := fun r hr => hR.vok hr
  obtain ⟨i1, i2⟩ := ho_mt_in hok hca hcb
  refine pm_isReplica (fun c => absurd rfl (c a ha)) (fun _ _ _ => ⟨fun c => absurd c (by decide), fun _ => pm_isReplica (fun c => absurd rfl (c b hb')) (fun _ _ _ => ⟨fun c => absurd c (by decide), fun _ => ⟨fun _ => pm_headSet hR.kn hb' (pm_headSet hR.kn ha ?_), fun c => absurd ((nI_eq (by omega) (by omega)).mp c) hab⟩⟩)⟩)
  rw [ja, jb]
  refine ⟨_, pm_meet46 (X := ho_mt A a b) hR ha hb' hca hcb ?_ 40 0 _ _ _ _ _ _ rfl (ho_ai_0 (h := A.2.2.1 a) hcb) (ho_ai_0 (h := A.2.2.1 b) hca) ?_ ?_ rfl⟩
  · refine pm_bring hR ha (fun i q => (hcb i (i1 i q)).1) (Nat.le_refl _) (fun _ _ => rfl) hL1 (fun I1 J1 cn1 cm1 so1 R1 => ?_)
    obtain ⟨j0, j1, j2⟩ := ho_br_gr ha L1 A hA (fun g hg => ((hL1.1 g).mp hg).1)
    exact pm_bring R1 hb' (fun i q => (hca i (i2 i q)).1) j1 j2 hL2 h
  · exact hb_ext fun i hi => by rw [hb_and, hb_and, hb_and, hb_not hi, hb_not hi, hb_0]; simp
  · exact hb_ext fun i hi => by rw [hb_and, hb_and, hb_and, hb_not hi, hb_not hi, hb_0]; simp
end MPB
