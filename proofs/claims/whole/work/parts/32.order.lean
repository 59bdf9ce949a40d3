/-! orders, and lists that are sorted by them -/
/-- g stands before f: by depth (if deep) and by hash -/
def ho_bef (deep : Prop) (K : Nat → ho_M) (g f : Nat) : Prop := (deep ∧ (K g).2.1 < (K f).2.1) ∨ ((deep → (K g).2.1 = (K f).2.1) ∧ (K g).1.1 < (K f).1.1)
theorem i64_tr {a b c : Int64} (h : a < b) (h2 : b < c) : a < c := by rw [Int64.lt_iff_toInt_lt] at *; omega
theorem i64_ir {a : Int64} (h : a < a) : False := by rw [Int64.lt_iff_toInt_lt] at h; omega
theorem i64_tt {a b : Int64} (h : a ≠ b) : a < b ∨ b < a := by
  have : a.toInt ≠ b.toInt := fun q => h (Int64.toInt_inj.mp q)
  rw [Int64.lt_iff_toInt_lt, Int64.lt_iff_toInt_lt]
  omega
theorem ho_bef_tr {deep : Prop} {K : Nat → ho_M} {a b c : Nat} (h : ho_bef deep K a b) (h2 : ho_bef deep K b c) : ho_bef deep K a c := by
  rcases h with ⟨d, h⟩ | ⟨e, h⟩ <;> rcases h2 with ⟨d2, h2⟩ | ⟨e2, h2⟩
  · exact Or.inl ⟨d, by omega⟩
  · exact Or.inl ⟨d, by have := e2 d; omega⟩
  · exact Or.inl ⟨d2, by have := e d2; omega⟩
  · exact Or.inr ⟨fun d => (e d).trans (e2 d), i64_tr h h2⟩
theorem ho_bef_ir {deep : Prop} {K : Nat → ho_M} {a : Nat} (h : ho_bef deep K a a) : False := by
  rcases h with ⟨-, h⟩ | ⟨-, h⟩
  · omega
  · exact i64_ir h
theorem ho_bef_as {deep : Prop} {K : Nat → ho_M} {a b : Nat} (h : ho_bef deep K a b) (h2 : ho_bef deep K b a) : False := ho_bef_ir (ho_bef_tr h h2)
theorem ho_bef_tt {deep : Prop} {K : Nat → ho_M} {n a b : Nat} (hd : ho_dis K n) (ha : a < n) (hb : b < n) (h : a ≠ b) : ho_bef deep K a b ∨ ho_bef deep K b a := by
  by_cases d : deep
  · rcases Nat.lt_trichotomy (K a).2.1 (K b).2.1 with q | q | q
    · exact Or.inl (Or.inl ⟨d, q⟩)
    · rcases i64_tt (fun e => h (hd a b ha hb e)) with z | z
      · exact Or.inl (Or.inr ⟨fun _ => q, z⟩)
      · exact Or.inr (Or.inr ⟨fun _ => q.symm, z⟩)
    · exact Or.inr (Or.inl ⟨d, q⟩)
  · rcases i64_tt (fun e => h (hd a b ha hb e)) with z | z
    · exact Or.inl (Or.inr ⟨fun q => absurd q d, z⟩)
    · exact Or.inr (Or.inr ⟨fun q => absurd q d, z⟩)
/-- L is the row of those g below n of which P holds, sorted -/
def ho_srt (deep : Prop) (K : Nat → ho_M) (P : Nat → Prop) (L : List Nat) : Prop := (∀ g, g ∈ L ↔ P g) ∧ L.Pairwise (ho_bef deep K)
theorem srt_head {deep : Prop} {K : Nat → ho_M} : ∀ {L M : List Nat}, L.Pairwise (ho_bef deep K) → M.Pairwise (ho_bef deep K) → (∀ g, g ∈ L ↔ g ∈ M) → L = M
  | [], [], _, _, _ => rfl
  | [], b :: M, _, _, h => absurd ((h b).mpr List.mem_cons_self) List.not_mem_nil
  | a :: L, [], _, _, h => absurd ((h a).mp List.mem_cons_self) List.not_mem_nil
  | a :: L, b :: M, hL, hM, h => by
    rw [List.pairwise_cons] at hL hM
    have hab : a = b := by
      rcases List.mem_cons.mp ((h a).mp List.mem_cons_self) with q | q
      · exact q
      · rcases List.mem_cons.mp ((h b).mpr List.mem_cons_self) with z | z
        · exact z.symm
        · exact (ho_bef_as (hM.1 a q) (hL.1 b z)).elim
    subst hab
    congr 1
    refine srt_head hL.2 hM.2 (fun g => ⟨fun hg => ?_, fun hg => ?_⟩)
    · rcases List.mem_cons.mp ((h g).mp (List.mem_cons_of_mem _ hg)) with q | q
      · subst q
        exact (ho_bef_ir (hL.1 g hg)).elim
      · exact q
    · rcases List.mem_cons.mp ((h g).mpr (List.mem_cons_of_mem _ hg)) with q | q
      · subst q
        exact (ho_bef_ir (hM.1 g hg)).elim
      · exact q
theorem srt_uniq {deep : Prop} {K : Nat → ho_M} {P : Nat → Prop} {L M : List Nat} (hL : ho_srt deep K P L) (hM : ho_srt deep K P M) : L = M := srt_head hL.2 hM.2 (fun g => (hL.1 g).trans (hM.1 g).symm)
theorem srt_nodup {deep : Prop} {K : Nat → ho_M} {L : List Nat} (h : L.Pairwise (ho_bef deep K)) : L.Nodup := h.imp (fun q e => by subst e; exact ho_bef_ir q)
theorem nodup_lt : ∀ (n : Nat) (L : List Nat), L.Nodup → (∀ g, g ∈ L → g < n) → L.length ≤ n := by
  intro n
  induction n with
  | zero =>
    intro L _ h
    cases L with
    | nil => exact Nat.le_refl _
    | cons a L => exact absurd (h a List.mem_cons_self) (Nat.not_lt_zero _)
  | succ n ih =>
    intro L hn h
    by_cases hm : n ∈ L
    · have h1 := ih (L.erase n) (hn.erase n) (fun g hg => by
        have hgl := List.mem_of_mem_erase hg
        have hne : g ≠ n := fun e => by
          subst e
          exact (List.Nodup.mem_erase_iff hn).mp hg |>.1 rfl
        have := h g hgl
        omega)
      rw [List.length_erase_of_mem hm] at h1
      omega
    · have := ih L hn (fun g hg => by
        have := h g hg
        have hne : g ≠ n := fun e => by subst e; exact hm hg
        omega)
      omega
/-- put in at its place -/
theorem srt_ins {deep : Prop} {K : Nat → ho_M} {A B : List Nat} {g : Nat} (h : (A ++ B).Pairwise (ho_bef deep K)) (hA : ∀ a, a ∈ A → ho_bef deep K a g) (hB : ∀ b, b ∈ B → ho_bef deep K g b) : (A ++ g :: B).Pairwise (ho_bef deep K) := by
  rw [List.pairwise_append] at h ⊢
  refine ⟨h.1, List.pairwise_cons.mpr ⟨hB, h.2.1⟩, fun a ha b hb => ?_⟩
  rcases List.mem_cons.mp hb with q | q
  · rw [q]; exact hA a ha
  · exact h.2.2 a ha b q
theorem srt_ext {deep : Prop} {K K' : Nat → ho_M} {L : List Nat} (h : L.Pairwise (ho_bef deep K)) (e : ∀ g, g ∈ L → K' g = K g) : L.Pairwise (ho_bef deep K') := by
  induction L with
  | nil => exact List.Pairwise.nil
  | cons a L ih =>
    rw [List.pairwise_cons] at h ⊢
    refine ⟨fun b hb => ?_, ih h.2 (fun g hg => e g (List.mem_cons_of_mem _ hg))⟩
    have := h.1 b hb
    unfold ho_bef at this ⊢
    rw [e a List.mem_cons_self, e b (List.mem_cons_of_mem _ hb)]
    exact this
/-- the order array holds L -/
def mOrd (I : Nat → Nat → Int32) (L : List Nat) : Prop := ∀ k, k < L.length → I 10 k = nI (L.getD k 0)
section MPS
variable {I : Nat → Nat → Int32} {J : Nat → Nat → Int64} {cn : Int32} {cm : Int64} {so : Int32} {K : Nat → ho_M} {n : Nat}
theorem pm_before {post : Int32 → (Nat → Nat → Int32) → (Nat → Nat → Int64) → Int32 → Int64 → Int32 → Prop} {g f : Nat} (deep : Prop) (hk : mKn K n I J cn) (hg : g < n) (hf : f < n) (h : post (bI (ho_bef deep K g f)) I J cn cm so) : wMbefore post I J cn cm so (nI g) (nI f) (bI deep) := by
  have hn := hk.1
  have vg : vp_in (nI g) 40 := vp_in_nI (by omega) (by omega)
  have vf : vp_in (nI f) 40 := vp_in_nI (by omega) (by omega)
  have b42 : (deep → (K g).2.1 = (K f).2.1) → wMbefore_42 post I J cn cm so (nI g) (nI f) := by
    intro hd
    unfold wMbefore_42
    rw [tN (show g < 2 ^ 31 by omega), tN (show f < 2 ^ 31 by omega), (hk.2.2.2 g hg).1, (hk.2.2.2 f hf).1, lg_cmp_ge]
    refine ⟨vg, vf, fun c => ?_, fun c => ?_⟩
    · rw [bI_f (P := ho_bef deep K g f) (by
        rintro (⟨d, q⟩ | ⟨_, q⟩)
        · have := hd d; omega
        · exact absurd q (Int64.not_lt.mpr c))] at h
      exact h
    · rw [bI_t (P := ho_bef deep K g f) (Or.inr ⟨hd, Int64.not_le.mp c⟩)] at h
      exact h
  unfold wMbefore
  refine bI_br (fun d => b42 (fun q => absurd q d)) (fun d => ⟨vg, vf, ?_⟩)
  have dg := (hk.2.2.2 g hg).2.2.2
  have df := (hk.2.2.2 f hf).2.2.2
  rw [tN (show g < 2 ^ 31 by omega), tN (show f < 2 ^ 31 by omega), dg.1, df.1, nI_eq (by omega) (by omega), nI_leI (by omega) (by omega)]
  refine ⟨fun c => b42 (fun _ => c), fun c => ⟨vg, vf, fun c2 => ?_, fun c2 => ?_⟩⟩
  · rw [bI_f (P := ho_bef deep K g f) (by
      rintro (⟨_, q⟩ | ⟨q, _⟩)
      · omega
      · exact c (q d))] at h
    exact h
  · rw [bI_t (P := ho_bef deep K g f) (Or.inl ⟨d, by omega⟩)] at h
    exact h
theorem getD_take {L : List Nat} {k i : Nat} (h : i < k) : (L.take k).getD i 0 = L.getD i 0 := by
  rw [List.getD_eq_getElem?_getD, List.getElem?_take_of_lt h, List.getD_eq_getElem?_getD]
/-- the inner loop: L with those from k on one place further; g goes to its place -/
theorem pm_s32 {post : (Nat → Nat → Int32) → (Nat → Nat → Int64) → Int32 → Int64 → Int32 → Prop} {K8 : (Nat → Nat → Int32) → (Nat → Nat → Int64) → Int32 → Int64 → Int32 → Int64 → Int32 → Int32 → Prop} {set : Int64} {g : Nat} {L : List Nat} (deep : Prop) (hk : mKn K n I J cn) (hg : g < n) (hLn : ∀ x, x ∈ L → x < g) (hlen : L.length ≤ g) (hp : L.Pairwise (ho_bef deep K)) (h : ∀ I' L', (∀ k, k ≠ 10 → I' k = I k) → mOrd I' L' → L'.length = L.length + 1 → (∀ x, x ∈ L' ↔ x ∈ L ∨ x = g) → L'.Pairwise (ho_bef deep K) → K8 I' J cn cm (nI L.length + 1) set (bI deep) (nI g + 1)) : ∀ k I', k ≤ L.length → (∀ a, a ≠ 10 → I' a = I a) → (∀ i, i < k → I' 10 i = nI (L.getD i 0)) → (∀ i, k ≤ i → i < L.length → I' 10 (i + 1) = nI (L.getD i 0)) → (∀ b, b ∈ L.drop k → ho_bef deep K g b) → wMsort_32 post K8 (k + 1) I' J cn cm (nI L.length) set (bI deep) (nI g) (nI k) := by
  have hn := hk.1
  have hdis := hk.2.2.1
  have mem_get : ∀ i, i < L.length → L.getD i 0 ∈ L := fun i hi => by
    rw [List.getD_eq_getElem?_getD, List.getElem?_eq_getElem hi]
    exact List.getElem_mem hi
  have fin : ∀ k I', k ≤ L.length → (∀ a, a ≠ 10 → I' a = I a) → (∀ i, i < k → I' 10 i = nI (L.getD i 0)) → (∀ i, k ≤ i → i < L.length → I' 10 (i + 1) = nI (L.getD i 0)) → (∀ b, b ∈ L.drop k → ho_bef deep K g b) → (∀ a, a ∈ L.take k → ho_bef deep K a g) → wMsort_78 post K8 I' J cn cm (nI L.length) set (bI deep) (nI g) (nI k) := by
    intro k I' hk1 h1 h2 h3 h4 h5
    unfold wMsort_78
    rw [tN (show k < 2 ^ 31 by omega)]
    refine ⟨vp_in_nI (by omega) (by omega), fun I2 e2 => h I2 (L.take k ++ g :: L.drop k) (fun a ha => by rw [e2, mi_n ha, h1 a ha]) (fun i hi => ?_) (by simp; omega) (fun x => ?_) (srt_ins (by rw [List.take_append_drop]; exact hp) h5 h4)⟩
    · have hl : (L.take k).length = k := by rw [List.length_take]; omega
      rw [e2, mi_s]
      rcases Nat.lt_trichotomy i k with q | q | q
      · have e3 : (L.take k ++ g :: L.drop k).getD i 0 = L.getD i 0 := by
          rw [List.getD_eq_getElem?_getD, List.getElem?_append_left (by omega), List.getElem?_take_of_lt q, List.getD_eq_getElem?_getD]
        rw [pk_un (by omega), h2 i q, e3]
      · rw [q, pk_us, List.getD_eq_getElem?_getD, List.getElem?_append_right (by omega), hl, Nat.sub_self]
        rfl
      · have hi2 : i < L.length + 1 := by simp at hi; omega
        rw [pk_un (by omega), List.getD_eq_getElem?_getD, List.getElem?_append_right (by omega), hl, show i - k = (i - 1 - k) + 1 by omega, List.getElem?_cons_succ, List.getElem?_drop, show k + (i - 1 - k) = i - 1 by omega]
        have := h3 (i - 1) (by omega) (by omega)
        rw [show i - 1 + 1 = i by omega] at this
        rw [this, List.getD_eq_getElem?_getD]
    · rw [List.mem_append, List.mem_cons]
      have : x ∈ L ↔ x ∈ L.take k ∨ x ∈ L.drop k := by
        rw [← List.mem_append, List.take_append_drop]
      rw [this]
      constructor
      · rintro (q | q | q)
        · exact Or.inl (Or.inl q)
        · exact Or.inr q
        · exact Or.inl (Or.inr q)
      · rintro ((q | q) | q)
        · exact Or.inl q
        · exact Or.inr (Or.inr q)
        · exact Or.inr (Or.inl q)
  intro k
  induction k with
  | zero =>
    intro I' hk1 h1 h2 h3 h4
    rw [wMsort_32_s]
    exact ⟨fun _ => fin 0 I' hk1 h1 h2 h3 h4 (fun a ha => by simp at ha), fun c => absurd (show nI 0 ≤ 0 by decide) c⟩
  | succ k ih =>
    intro I' hk1 h1 h2 h3 h4
    have hb := mem_get k (by omega)
    have hbg := hLn _ hb
    rw [wMsort_32_s, nI_pred, tN (show k < 2 ^ 31 by omega), tN (show k + 1 < 2 ^ 31 by omega), h2 k (by omega)]
    have hk' : mKn K n I' J cn := hk.ext (fun a x ha _ => by rw [h1 a (by omega)]) (fun _ _ => rfl) (fun _ _ => rfl) (fun _ _ => rfl)
    refine ⟨fun c => absurd c (nI_nle (by omega) (by omega)), fun _ => ⟨vp_in_nI (by omega) (by omega), pm_before deep hk' hg (show L.getD k 0 < n by omega) (bI_br (fun q => ?_) (fun q => ⟨vp_in_nI (by omega) (by omega), vp_in_nI (by omega) (by omega), fun I2 e2 => ?_⟩))⟩⟩
    · have hlt : ho_bef deep K (L.getD k 0) g := (ho_bef_tt hdis (show L.getD k 0 < n by omega) hg (by omega)).elim id (fun z => absurd z q)
      refine fin (k + 1) I' hk1 h1 h2 h3 h4 (fun a ha => ?_)
      obtain ⟨i, hi⟩ := List.getElem?_of_mem ha
      have hi1 := (List.getElem?_eq_some_iff.mp hi).1
      rw [List.length_take] at hi1
      rw [List.getElem?_take_of_lt (by omega)] at hi
      rcases Nat.lt_or_ge i k with z | z
      · have hr : ho_bef deep K L[i] L[k] := List.pairwise_iff_getElem.mp hp i k (by omega) (by omega) z
        rw [List.getElem?_eq_getElem (by omega)] at hi
        cases hi
        rw [List.getD_eq_getElem?_getD, List.getElem?_eq_getElem (by omega)] at hlt
        exact ho_bef_tr hr hlt
      · have e : i = k := by omega
        rw [e, List.getElem?_eq_getElem (by omega)] at hi
        cases hi
        rw [List.getD_eq_getElem?_getD, List.getElem?_eq_getElem (by omega)] at hlt
        exact hlt
    · rw [h2 k (by omega)] at e2
      rw [pk_m1]
      refine ih I2 (by omega) (fun a ha => by rw [e2, mi_n ha, h1 a ha]) (fun i hi => by rw [e2, mi_s, pk_un (by omega), h2 i (by omega)]) (fun i hi1 hi2 => ?_) (fun b hb' => ?_)
      · rw [e2, mi_s]
        by_cases e : i = k
        · rw [e, pk_us]
        · rw [pk_un (by omega), h3 i (by omega) hi2]
      · rw [List.drop_eq_getElem_cons (show k < L.length by omega)] at hb'
        rcases List.mem_cons.mp hb' with z | z
        · rw [z]
          rw [List.getD_eq_getElem?_getD, List.getElem?_eq_getElem (by omega)] at q
          exact q
        · exact h4 b z
theorem pm_s8 {post : (Nat → Nat → Int32) → (Nat → Nat → Int64) → Int32 → Int64 → Int32 → Prop} {set : Int64} (deep : Prop) (hk : mKn K n I J cn) (h : ∀ I' L, (∀ k, k ≠ 10 → I' k = I k) → mOrd I' L → ho_srt deep K (fun g => g < n ∧ hb set g = true) L → post I' J cn cm (nI L.length)) : ∀ d g I' L, g + d = n → (∀ k, k ≠ 10 → I' k = I k) → mOrd I' L → ho_srt deep K (fun x => x < g ∧ hb set x = true) L → wMsort_8 post (d + 1) I' J cn cm (nI L.length) set (bI deep) (nI g) := by
  have hn := hk.1
  have hc := hk.2.1
  intro d
  induction d with
  | zero =>
    intro g I' L hg h1 h2 h3
    have e : g = n := by omega
    subst e
    rw [wMsort_8_s]
    exact ⟨fun _ => h I' L h1 h2 h3, fun c => absurd (by rw [hc]; exact nI_le (Nat.le_refl _) (by omega)) c⟩
  | succ d ih =>
    intro g I' L hg h1 h2 h3
    have hgn : g < n := by omega
    have hk' : mKn K n I' J cn := hk.ext (fun a x ha _ => by rw [h1 a (by omega)]) (fun _ _ => rfl) (fun _ _ => rfl) (fun _ _ => rfl)
    have hlen : L.length ≤ g := nodup_lt g L (srt_nodup h3.2) (fun x hx => ((h3.1 x).mp hx).1)
    rw [wMsort_8_s]
    refine ⟨fun c => absurd (by rw [hc] at c; exact c) (nI_ge hgn (by omega)), fun _ => pm_in1 (by omega) (bI_br (fun q => ?_) (fun q => ⟨_, pm_s32 (I := I') deep hk' hgn (fun x hx => ((h3.1 x).mp hx).1) hlen h3.2 (fun I2 L2 g1 g2 g3 g4 g5 => ?_) L.length I' (Nat.le_refl _) (fun _ _ => rfl) h2 (fun i hi1 hi2 => by omega) (fun b hb => by simp at hb)⟩))⟩
    · rw [nI_1]
      refine ih (g + 1) I' L (by omega) h1 h2 ⟨fun x => (h3.1 x).trans ⟨fun z => ⟨by omega, z.2⟩, fun z => ⟨?_, z.2⟩⟩, h3.2⟩
      rcases Nat.lt_or_ge x g with y | y
      · exact y
      · have e : x = g := by omega
        rw [e] at z
        exact absurd z.2 q
    · rw [nI_1, nI_1, ← g3]
      refine ih (g + 1) I2 L2 (by omega) (fun a ha => by rw [g1 a ha, h1 a ha]) g2 ⟨fun x => (g4 x).trans ⟨fun z => ?_, fun z => ?_⟩, g5⟩
      · rcases z with z | z
        · have := (h3.1 x).mp z
          exact ⟨by omega, this.2⟩
        · rw [z]; exact ⟨by omega, q⟩
      · rcases Nat.lt_or_ge x g with y | y
        · exact Or.inl ((h3.1 x).mpr ⟨y, z.2⟩)
        · exact Or.inr (by omega)
theorem pm_sort {post : (Nat → Nat → Int32) → (Nat → Nat → Int64) → Int32 → Int64 → Int32 → Prop} {set : Int64} (deep : Prop) (hk : mKn K n I J cn) (h : ∀ I' L, (∀ k, k ≠ 10 → I' k = I k) → mOrd I' L → ho_srt deep K (fun g => g < n ∧ hb set g = true) L → post I' J cn cm (nI L.length)) : wMsort post I J cn cm so set (bI deep) := by
  have := pm_s8 (cm := cm) deep hk h n 0 I [] (by omega) (fun _ _ => rfl) (fun k hk => absurd hk (Nat.not_lt_zero k)) ⟨fun g => ⟨fun q => absurd q List.not_mem_nil, fun q => by omega⟩, List.Pairwise.nil⟩
  exact ⟨_, this⟩
end MPS
