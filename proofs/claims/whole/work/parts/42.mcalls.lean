/-! the reference: the calls -/
def ho_wl (K : Nat → ho_M) (L : List Nat) : List Int64 := (L.drop (L.length - 4)).map (fun g => (K g).1.1)
def ho_wo (K : Nat → ho_M) (L : List Nat) (r : Nat) (a2 a3 a4 : Int32) : ho_O := (ho_hashO (nI r, a2, a3, a4) (ho_wl K L), (nI r, a2, a3, a4), ho_wl K L)
def ho_od (dq : ho_O) : ho_O := (ho_hashO dq.2.1 dq.2.2, dq.2.1, dq.2.2)
def ho_abt (m : ho_M) (x : Int32) : Int32 := if x = 0 then m.1.2.1.1 else if x = 1 then m.1.2.1.2.1 else if x = 2 then m.1.2.1.2.2.1 else if x = 3 then m.1.2.1.2.2.2 else if x = 4 then nI m.1.2.2.length else if x = 5 then nI m.2.1 else -1
def ho_val (K : Nat → ho_M) (key : Int32) : List Nat → Int32 → Int32
  | [], s => s
  | g :: L, s => ho_val K key L (if (K g).1.2.1.2.1 = 0 ∧ (K g).1.2.1.2.2.1 = key then (K g).1.2.1.2.2.2 else if (K g).1.2.1.2.1 = 1 ∧ (K g).1.2.1.2.2.1 = key then s + (K g).1.2.1.2.2.2 else s)
theorem ho_wl_len (K : Nat → ho_M) (L : List Nat) : (ho_wl K L).length = L.length - (L.length - 4) := by
  unfold ho_wl
  rw [List.length_map, List.length_drop]
theorem ho_wl_get {K : Nat → ho_M} {L : List Nat} {j : Nat} (hj : L.length - 4 + j < L.length) : (ho_wl K L).getD j 0 = (K (L.getD (L.length - 4 + j) 0)).1.1 := by
  unfold ho_wl
  rw [List.getD_eq_getElem?_getD, List.getElem?_map, List.getElem?_drop, List.getD_eq_getElem?_getD, List.getElem?_eq_getElem hj]
  rfl
theorem nI_sub {a b : Nat} (h : b ≤ a) : nI a - nI b = nI (a - b) := by
  have : a = b + (a - b) := by omega
  rw [this, ← nI_add, show b + (a - b) - b = a - b by omega, Int32.add_comm, Int32.add_sub_cancel]
section MPC
variable {I : Nat → Nat → Int32} {J : Nat → Nat → Int64} {cn : Int32} {cm : Int64} {so : Int32} {A : ho_A} {dq : ho_O} {r : Nat}
theorem pm_w80 {post : Int32 → (Nat → Nat → Int32) → (Nat → Nat → Int64) → Int32 → Int64 → Int32 → Prop} {L : List Nat} {a2 a3 a4 : Int32} (hr : r < 4) (hlt : ∀ g, g ∈ L → g < A.2.1) (hl40 : L.length ≤ 40) (hO : mOrd I L) (h9 : I 9 0 = nI r ∧ I 9 1 = a2 ∧ I 9 2 = a3 ∧ I 9 3 = a4 ∧ I 9 4 = nI (L.length - (L.length - 4))) (h : ∀ I' J' cn' cm' so', mR (ho_cA A r (ho_wo A.1 L r a2 a3 a4)) dq I' J' cn' → post (ho_ca A r (ho_wo A.1 L r a2 a3 a4)) I' J' cn' cm' so') : ∀ d k J', k + d = L.length → L.length - 4 ≤ k → mR A dq I J' cn → (∀ j, L.length - 4 + j < k → J' 7 j = (A.1 (L.getD (L.length - 4 + j) 0)).1.1) → wMwrite_80 post (d + 1) I J' cn cm (nI L.length) (nI r) (nI (L.length - 4)) (nI k) := by
  intro d
  induction d with
  | zero =>
    intro k J' e hk hR h7
    have e : k = L.length := by omega
    subst e
    have hm : mNum (I 9) (J' 7) (ho_wo A.1 L r a2 a3 a4) := by
      refine ⟨h9.1, h9.2.1, h9.2.2.1, h9.2.2.2.1, ?_, ?_, fun j hj => ?_⟩
      · rw [h9.2.2.2.2]
        show _ = nI (ho_wl A.1 L).length
        rw [ho_wl_len]
      · show (ho_wl A.1 L).length ≤ 4
        rw [ho_wl_len]
        omega
      · have hj : j < (ho_wl A.1 L).length := hj
        rw [ho_wl_len] at hj
        rw [h7 j (by omega)]
        show _ = (ho_wl A.1 L).getD j 0
        rw [ho_wl_get (by omega)]
    rw [wMwrite_80_s]
    exact ⟨fun _ => pm_hashOfN hm (pm_comeA hR hr hm rfl (fun I' J' cn' cm' q => h I' J' cn' cm' _ q)), fun c => absurd (nI_le (Nat.le_refl _) (by omega)) c⟩
  | succ d ih =>
    intro k J' e hk hR h7
    have hkl : k < L.length := by omega
    have hg := hlt _ (getD_mem hkl)
    have h40 : A.2.1 ≤ 40 := hR.kn.1
    rw [wMwrite_80_s, nI_sub hk, tN (show k < 2 ^ 31 by omega), hO k hkl, tN (show L.getD k 0 < 2 ^ 31 by omega), tN (show k - (L.length - 4) < 2 ^ 31 by omega)]
    refine ⟨fun c => absurd c (nI_ge hkl (by omega)), fun _ => ⟨vp_in_nI (by omega) (by omega), vp_in_nI (by omega) (by omega), vp_in_nI (by omega) (by omega), fun J20 e20 => ?_⟩⟩
    rw [nI_1]
    refine ih (k + 1) J20 (by omega) (by omega) (mRep.fr hR ⟨fun _ _ _ => rfl, fun a ha => by rw [e20, mj_n ha]⟩) (fun j hj => ?_)
    rw [e20, mj_s]
    by_cases q : j = k - (L.length - 4)
    · rw [q, pk_uLs, (hR.kn.2.2.2 _ hg).1, show L.length - 4 + (k - (L.length - 4)) = k by omega]
    · rw [pk_uLn (by omega), h7 j (by omega)]
theorem pm_w32 {post : Int32 → (Nat → Nat → Int32) → (Nat → Nat → Int64) → Int32 → Int64 → Int32 → Prop} {L : List Nat} {a2 a3 a4 : Int32} (hr : r < 4) (hlt : ∀ g, g ∈ L → g < A.2.1) (hl40 : L.length ≤ 40) (hR : mR A dq I J cn) (hO : mOrd I L) (h : ∀ I' J' cn' cm' so', mR (ho_cA A r (ho_wo A.1 L r a2 a3 a4)) dq I' J' cn' → post (ho_ca A r (ho_wo A.1 L r a2 a3 a4)) I' J' cn' cm' so') : wMwrite_32 post I J cn cm (nI L.length) (nI r) a2 a3 a4 (nI (L.length - 4)) := by
  unfold wMwrite_32
  rw [nI_sub (by omega), t32_0, t32_1, t32_2, t32_3, t32_4]
  refine ⟨v05, fun I5 e5 => ⟨v15, fun I7 e7 => ⟨v25, fun I9 e9 => ⟨v35, fun I11 e11 => ⟨v45, fun I13 e13 => ?_⟩⟩⟩⟩⟩
  have hne : ∀ k, k ≠ 9 → I13 k = I k := fun k hk => by rw [e13, mi_n hk, e11, mi_n hk, e9, mi_n hk, e7, mi_n hk, e5, mi_n hk]
  have h13 : ∀ j, I13 9 j = upd (upd (upd (upd (upd (I 9) 0 (nI r)) 1 a2) 2 a3) 3 a4) 4 (nI (L.length - (L.length - 4))) j := fun j => by rw [e13, mi_s, e11, mi_s, e9, mi_s, e7, mi_s, e5, mi_s]
  refine ⟨_, pm_w80 hr hlt hl40 (fun k hk => by rw [hne 10 (by decide)]; exact hO k hk) ⟨?_, ?_, ?_, ?_, ?_⟩ h (L.length - (L.length - 4)) (L.length - 4) J (by omega) (Nat.le_refl _) (mRep.fr hR ⟨fun k hk _ => hne k hk, fun _ _ => rfl⟩) (fun j hj => by omega)⟩
  · rw [h13, pk_un (by decide), pk_un (by decide), pk_un (by decide), pk_un (by decide), pk_us]
  · rw [h13, pk_un (by decide), pk_un (by decide), pk_un (by decide), pk_us]
  · rw [h13, pk_un (by decide), pk_un (by decide), pk_us]
  · rw [h13, pk_un (by decide), pk_us]
  · rw [h13, pk_us]
theorem pm_sortH {post : (Nat → Nat → Int32) → (Nat → Nat → Int64) → Int32 → Int64 → Int32 → Prop} {L : List Nat} (hR : mR A dq I J cn) (hr : r < 4) (hcl : ho_cl A.1 A.2.1 (A.2.2.1 r)) (hL : ho_srt False A.1 (fun g => hb (ho_hds A.1 A.2.1 (A.2.2.1 r)) g = true) L) (h : ∀ I', mR A dq I' J cn → mOrd I' L → post I' J cn cm (nI L.length)) : wMsortHeads post I J cn cm so (nI r) := by
  refine pm_sortHeads hR.kn hr (fun I' L' h1 h2 h3 => ?_)
  rw [hR.2.2.1 r hr] at h3
  have e := srt_uniq h3 (ho_srt_iff hL (fun g => ⟨fun q => ⟨(hcl g (ho_hds_hb.mp q).1).1, q⟩, fun q => q.2⟩))
  subst e
  exact h I' (mRep_ord hR h1) h2
theorem pm_write {post : Int32 → (Nat → Nat → Int32) → (Nat → Nat → Int64) → Int32 → Int64 → Int32 → Prop} {L : List Nat} {a2 a3 a4 : Int32} (hR : mR A dq I J cn) (hr : r < 4) (hcl : ho_cl A.1 A.2.1 (A.2.2.1 r)) (hL : ho_srt False A.1 (fun g => hb (ho_hds A.1 A.2.1 (A.2.2.1 r)) g = true) L) (h : ∀ I' J' cn' cm' so', mR (ho_cA A r (ho_wo A.1 L r a2 a3 a4)) dq I' J' cn' → post (ho_ca A r (ho_wo A.1 L r a2 a3 a4)) I' J' cn' cm' so') : wMwrite post I J cn cm so (nI r) a2 a3 a4 := by
  have h40 : A.2.1 ≤ 40 := hR.kn.1
  have hlt : ∀ g, g ∈ L → g < A.2.1 := fun g hg => (hcl g (ho_hds_hb.mp ((hL.1 g).mp hg)).1).1
  have hl := nodup_lt A.2.1 L (srt_nodup hL.2) hlt
  refine pm_isReplica (fun c => absurd rfl (c r hr)) (fun _ _ _ => ⟨fun _ => pm_sortH hR hr hcl hL (fun I' R' O' => ?_), fun c => absurd c (by decide)⟩)
  have w32 := pm_w32 (post := post) (cm := cm) hr hlt (by omega) R' O' h
  rw [show (4 : Int32) = nI 4 from rfl, nI_leI (by omega) (by omega)]
  refine ⟨fun c => ?_, fun c => ?_⟩
  · rw [show L.length - 4 = 0 by omega] at w32
    exact w32
  · rw [nI_sub (by omega)]
    exact w32
theorem mRep.dft {K : Nat → ho_M} {n : Nat} {hd : Nat → Int64} {wt : Nat → List ho_O} {dq' : ho_O} {I' : Nat → Nat → Int32} {J' : Nat → Nat → Int64} (h : mRep K n hd wt dq I J cn) (hi : ∀ k, k ≠ 8 → I' k = I k) (hj : ∀ k, k ≠ 6 → J' k = J k) (hm : mNum (I' 8) (J' 6) dq') : mRep K n hd wt dq' I' J' cn := by
  obtain ⟨h1, h2, h3, h4, h5⟩ := h
  refine ⟨h1, h2.ext (fun k g hk _ => by rw [hi k (by omega)]) (fun _ _ => by rw [hj 0 (by decide)]) (fun _ _ => by rw [hj 1 (by decide)]) (fun _ _ => by rw [hj 2 (by decide)]), fun r hr => by rw [hj 3 (by decide)]; exact h3 r hr, fun r hr => ⟨(h4 r hr).1, (h4 r hr).2.1, (h4 r hr).2.2.fr (hi 6 (by decide)) (hi 7 (by decide)) (hj 4 (by decide)) (hj 5 (by decide))⟩, hm⟩
theorem pm_draft {post : (Nat → Nat → Int32) → (Nat → Nat → Int64) → Int32 → Int64 → Int32 → Prop} {a1 a2 a3 a4 : Int32} (hR : mR A dq I J cn) (h : ∀ I' J' cn' cm' so', mR A (0, (a1, a2, a3, a4), []) I' J' cn' → post I' J' cn' cm' so') : wMdraft post I J cn cm so a1 a2 a3 a4 := by
  unfold wMdraft
  rw [t32_0, t32_1, t32_2, t32_3, t32_4]
  refine ⟨v05, fun I5 e5 => ⟨v15, fun I7 e7 => ⟨v25, fun I9 e9 => ⟨v35, fun I11 e11 => ⟨v45, fun I13 e13 => ?_⟩⟩⟩⟩⟩
  have hne : ∀ k, k ≠ 8 → I13 k = I k := fun k hk => by rw [e13, mi_n hk, e11, mi_n hk, e9, mi_n hk, e7, mi_n hk, e5, mi_n hk]
  have h13 : ∀ j, I13 8 j = upd (upd (upd (upd (upd (I 8) 0 a1) 1 a2) 2 a3) 3 a4) 4 0 j := fun j => by rw [e13, mi_s, e11, mi_s, e9, mi_s, e7, mi_s, e5, mi_s]
  refine h _ _ _ _ _ (mRep.dft hR hne (fun _ _ => rfl) ⟨?_, ?_, ?_, ?_, ?_, Nat.zero_le _, fun j hj => absurd hj (Nat.not_lt_zero _)⟩)
  · rw [h13, pk_un (by decide), pk_un (by decide), pk_un (by decide), pk_un (by decide), pk_us]
  · rw [h13, pk_un (by decide), pk_un (by decide), pk_un (by decide), pk_us]
  · rw [h13, pk_un (by decide), pk_un (by decide), pk_us]
  · rw [h13, pk_un (by decide), pk_us]
  · rw [h13, pk_us]; rfl
theorem pm_link {post : Int32 → (Nat → Nat → Int32) → (Nat → Nat → Int64) → Int32 → Int64 → Int32 → Prop} {x : Int64} (hR : mR A dq I J cn) (h0 : ¬ dq.2.2.length < 4 → post 0 I J cn cm so) (h : dq.2.2.length < 4 → ∀ I' J' cn' cm' so', mR A (dq.1, dq.2.1, dq.2.2 ++ [x]) I' J' cn' → post 1 I' J' cn' cm' so') : wMlink post I J cn cm so x := by
  obtain ⟨m0, m1, m2, m3, m4, m5, m6⟩ := id hR.2.2.2.2
  unfold wMlink
  rw [t32_4, m4, show (4 : Int32) = nI 4 from rfl, nI_eq (by omega) (by omega), tN (show dq.2.2.length < 2 ^ 31 by omega)]
  refine ⟨v45, fun c => ⟨v45, vp_in_nI (by omega) (by omega), fun J4 e4 => ⟨v45, v45, fun I7 e7 => ?_⟩⟩, fun c => h0 (by omega)⟩
  rw [nI_1] at e7
  have h7 : ∀ j, I7 8 j = upd (I 8) 4 (nI (dq.2.2.length + 1)) j := fun j => by rw [e7, mi_s]
  refine h (by omega) _ _ _ _ _ (mRep.dft hR (fun k hk => by rw [e7, mi_n hk]) (fun k hk => by rw [e4, mj_n hk]) ⟨?_, ?_, ?_, ?_, ?_, ?_, fun j hj => ?_⟩)
  · rw [h7, pk_un (by decide)]; exact m0
  · rw [h7, pk_un (by decide)]; exact m1
  · rw [h7, pk_un (by decide)]; exact m2
  · rw [h7, pk_un (by decide)]; exact m3
  · rw [h7, pk_us]
    show _ = nI (dq.2.2 ++ [x]).length
    rw [List.length_append]
    rfl
  · show (dq.2.2 ++ [x]).length ≤ 4
    rw [List.length_append]
    simp
    omega
  · have hj : j < (dq.2.2 ++ [x]).length := hj
    rw [List.length_append] at hj
    show _ = (dq.2.2 ++ [x]).getD j 0
    rw [e4, mj_s]
    by_cases q : j = dq.2.2.length
    · rw [q, pk_uLs, l_getD_last]
    · have hj2 : j < dq.2.2.length := by simp at hj; omega
      rw [pk_uLn (by omega), l_getD_left hj2]
      exact m6 j hj2
theorem pm_of36 {post : Int32 → (Nat → Nat → Int32) → (Nat → Nat → Int64) → Int32 → Int64 → Int32 → Prop} (hr : r < 4) (h9 : ∀ j, j < 5 → I 9 j = I 8 j) (h : ∀ I' J' cn' cm' so', mR (ho_cA A r (ho_od dq)) dq I' J' cn' → post (ho_ca A r (ho_od dq)) I' J' cn' cm' so') : ∀ d k J', k + d = 4 → mR A dq I J' cn → (∀ j, j < k → J' 7 j = J' 6 j) → wMoffer_36 post (d + 1) I J' cn cm so (nI r) (nI k) := by
  intro d
  induction d with
  | zero =>
    intro k J' e hR h7
    have e : k = 4 := by omega
    subst e
    obtain ⟨m0, m1, m2, m3, m4, m5, m6⟩ := id hR.2.2.2.2
    have hm : mNum (I 9) (J' 7) (ho_od dq) := ⟨(h9 0 (by omega)).trans m0, (h9 1 (by omega)).trans m1, (h9 2 (by omega)).trans m2, (h9 3 (by omega)).trans m3, (h9 4 (by omega)).trans m4, m5, fun j hj => (h7 j (Nat.lt_of_lt_of_le hj m5)).trans (m6 j hj)⟩
    rw [wMoffer_36_s]
    exact ⟨fun _ => pm_draftHash hR.2.2.2.2 (pm_comeA hR hr hm rfl (fun I' J' cn' cm' q => h I' J' cn' cm' _ q)), fun c => absurd (by decide) c⟩
  | succ d ih =>
    intro k J' e hR h7
    rw [wMoffer_36_s, l4 (by omega), tN (show k < 2 ^ 31 by omega)]
    refine ⟨fun c => by omega, fun _ => ⟨vp_in_nI (by omega) (by omega), vp_in_nI (by omega) (by omega), fun J11 e11 => ?_⟩⟩
    rw [nI_1]
    refine ih (k + 1) J11 (by omega) (mRep.fr hR ⟨fun _ _ _ => rfl, fun a ha => by rw [e11, mj_n ha]⟩) (fun j hj => ?_)
    rw [e11, mj_s, mj_n (show (6 : Nat) ≠ 7 by decide)]
    by_cases q : j = k
    · rw [q, pk_uLs]
    · rw [pk_uLn (by omega)]; exact h7 j (by omega)
theorem pm_of11 {post : Int32 → (Nat → Nat → Int32) → (Nat → Nat → Int64) → Int32 → Int64 → Int32 → Prop} (hr : r < 4) (h : ∀ I' J' cn' cm' so', mR (ho_cA A r (ho_od dq)) dq I' J' cn' → post (ho_ca A r (ho_od dq)) I' J' cn' cm' so') : ∀ d k I, k + d = 5 → mR A dq I J cn → (∀ j, j < k → I 9 j = I 8 j) → wMoffer_11 post (d + 1) I J cn cm so (nI r) (nI k) := by
  intro d
  induction d with
  | zero =>
    intro k I e hR h9
    have e : k = 5 := by omega
    subst e
    rw [wMoffer_11_s]
    exact ⟨fun _ => ⟨_, pm_of36 hr h9 h 4 0 J rfl hR (fun j hj => absurd hj (Nat.not_lt_zero _))⟩, fun c => absurd (by decide) c⟩
  | succ d ih =>
    intro k I e hR h9
    rw [wMoffer_11_s, l5 (by omega), tN (show k < 2 ^ 31 by omega)]
    refine ⟨fun c => by omega, fun _ => ⟨vp_in_nI (by omega) (by omega), vp_in_nI (by omega) (by omega), fun I5 e5 => ?_⟩⟩
    rw [nI_1]
    refine ih (k + 1) I5 (by omega) (mRep.fr hR ⟨fun a ha _ => by rw [e5, mi_n ha], fun _ _ => rfl⟩) (fun j hj => ?_)
    rw [e5, mi_s, mi_n (show (8 : Nat) ≠ 9 by decide)]
    by_cases q : j = k
    · rw [q, pk_us]
    · rw [pk_un (by omega)]; exact h9 j (by omega)
theorem pm_offer {post : Int32 → (Nat → Nat → Int32) → (Nat → Nat → Int64) → Int32 → Int64 → Int32 → Prop} (hR : mR A dq I J cn) (hr : r < 4) (h : ∀ I' J' cn' cm' so', mR (ho_cA A r (ho_od dq)) dq I' J' cn' → post (ho_ca A r (ho_od dq)) I' J' cn' cm' so') : wMoffer post I J cn cm so (nI r) := pm_isReplica (fun c => absurd rfl (c r hr)) (fun _ _ _ => ⟨fun _ => ⟨_, pm_of11 hr h 5 0 I rfl hR (fun j hj => absurd hj (Nat.not_lt_zero _))⟩, fun c => absurd c (by decide)⟩)
theorem pm_drop {post : Int32 → (Nat → Nat → Int32) → (Nat → Nat → Int64) → Int32 → Int64 → Int32 → Prop} (hR : mR A dq I J cn) (hr : r < 4) (h : ∀ I' J' cn' cm' so', mR (A.1, A.2.1, A.2.2.1, va_up A.2.2.2 r []) dq I' J' cn' → post (nI (A.2.2.2 r).length) I' J' cn' cm' so') : wMdrop post I J cn cm so (nI r) := by
  refine pm_isReplica (fun c => absurd rfl (c r hr)) (fun _ _ _ => ⟨fun _ => ?_, fun c => absurd c (by decide)⟩)
  obtain ⟨h1, h2, h3⟩ := hR.2.2.2.1 r hr
  rw [tN (show r < 2 ^ 31 by omega), h3.1]
  refine ⟨vp_in_nI hr (by omega), vp_in_nI hr (by omega), fun I4 e4 => ?_⟩
  have hf : mFw I J I4 J r := ⟨fun k h6 _ => by rw [e4, mi_n h6], fun _ _ _ => rfl, fun r' wt hne _ _ hw => ⟨by rw [e4, mi_g hne]; exact hw.1, fun i hi => (hw.2 i hi).mv rfl (fun k _ => by rw [e4, mi_n (show (7 : Nat) ≠ 6 by decide)]) (fun _ _ => rfl)⟩⟩
  exact h _ _ _ _ _ (mRep.fw hR hr hf (Nat.zero_le _) (fun o ho => absurd ho List.not_mem_nil) ⟨by rw [e4, mi_s, pk_us]; rfl, fun i hi => absurd hi (Nat.not_lt_zero _)⟩)
theorem pm_held {post : Int32 → (Nat → Nat → Int32) → (Nat → Nat → Int64) → Int32 → Int64 → Int32 → Prop} {deep : Prop} {L : List Nat} (hR : mR A dq I J cn) (hr : r < 4) (hcl : ho_cl A.1 A.2.1 (A.2.2.1 r)) (hL : ho_srt deep A.1 (fun g => hb (A.2.2.1 r) g = true) L) (h : post (nI L.length) I J cn cm so) : wMheld post I J cn cm so (nI r) := by
  have h40 : A.2.1 ≤ 40 := hR.kn.1
  refine pm_isReplica (fun c => absurd rfl (c r hr)) (fun _ _ _ => ⟨fun c => absurd c (by decide), fun _ => ⟨vp_in_nI hr (by omega), pm_size ?_⟩⟩)
  rw [tN (show r < 2 ^ 31 by omega), hR.2.2.1 r hr, ← ho_cnt_len (srt_nodup hL.2) (fun g => (hL.1 g).trans ⟨fun q => ⟨by have := (hcl g q).1; omega, q⟩, fun q => q.2⟩)]
  exact h
theorem pm_waiting {post : Int32 → (Nat → Nat → Int32) → (Nat → Nat → Int64) → Int32 → Int64 → Int32 → Prop} (hR : mR A dq I J cn) (hr : r < 4) (h : post (nI (A.2.2.2 r).length) I J cn cm so) : wMwaiting post I J cn cm so (nI r) := by
  refine pm_isReplica (fun c => absurd rfl (c r hr)) (fun _ _ _ => ⟨fun c => absurd c (by decide), fun _ => ⟨vp_in_nI hr (by omega), ?_⟩⟩)
  rw [tN (show r < 2 ^ 31 by omega), (hR.2.2.2.1 r hr).2.2.1]
  exact h
theorem pm_has {post : Int32 → (Nat → Nat → Int32) → (Nat → Nat → Int64) → Int32 → Int64 → Int32 → Prop} {x : Int64} (hR : mR A dq I J cn) (hr : r < 4) (h : post (bI (ho_has A.1 A.2.1 (A.2.2.1 r) x = true)) I J cn cm so) : wMhas post I J cn cm so (nI r) x := by
  have h40 : A.2.1 ≤ 40 := hR.kn.1
  refine pm_isReplica (fun c => absurd rfl (c r hr)) (fun _ _ _ => ⟨fun c => absurd c (by decide), fun _ => ⟨vp_in_nI hr (by omega), pm_findK hR.kn (pm_in (fun g q => by have := (ho_find_some q).1; omega) ?_)⟩⟩)
  rw [tN (show r < 2 ^ 31 by omega), hR.2.2.1 r hr]
  have e : (∃ g, ho_find A.1 x A.2.1 = some g ∧ hb (A.2.2.1 r) g = true) ↔ ho_has A.1 A.2.1 (A.2.2.1 r) x = true := by
    unfold ho_has
    cases q : ho_find A.1 x A.2.1 with
    | none => exact ⟨fun ⟨g, z, _⟩ => (by cases z), fun z => (by cases z)⟩
    | some g => exact ⟨fun ⟨g', z, z2⟩ => by cases z; exact z2, fun z => ⟨g, rfl, z⟩⟩
  rw [bI_ext e]
  refine bI_br (fun q => ?_) (fun q => ?_)
  · rw [bI_f q] at h; exact h
  · rw [bI_t q] at h; exact h
theorem pm_sortO {post : (Nat → Nat → Int32) → (Nat → Nat → Int64) → Int32 → Int64 → Int32 → Prop} {L : List Nat} (hR : mR A dq I J cn) (hr : r < 4) (hcl : ho_cl A.1 A.2.1 (A.2.2.1 r)) (hL : ho_srt True A.1 (fun g => hb (A.2.2.1 r) g = true) L) (h : ∀ I', mR A dq I' J cn → mOrd I' L → post I' J cn cm (nI L.length)) : wMsort post I J cn cm so (J 3 r) 1 := by
  rw [hR.2.2.1 r hr]
  exact pm_sort1 hR.kn (ho_srt_iff hL (fun g => ⟨fun q => ⟨(hcl g q).1, q⟩, fun q => q.2⟩)) (fun I' h1 h2 => h I' (mRep_ord hR h1) h2)
theorem pm_placeOf {post : Int32 → (Nat → Nat → Int32) → (Nat → Nat → Int64) → Int32 → Int64 → Int32 → Prop} {L : List Nat} {x : Int32} (hR : mR A dq I J cn) (hr : r < 4) (hcl : ho_cl A.1 A.2.1 (A.2.2.1 r)) (hL : ho_srt True A.1 (fun g => hb (A.2.2.1 r) g = true) L) (h0 : (x < 0 ∨ ¬ x < nI L.length) → ∀ I' so', mR A dq I' J cn → post (-1) I' J cn cm so') (h1 : ∀ k, k < L.length → x = nI k → ∀ I' so', mR A dq I' J cn → post (nI (L.getD k 0)) I' J cn cm so') : wMplaceOf post I J cn cm so (nI r) x := by
  have h40 : A.2.1 ≤ 40 := hR.kn.1
  have hl := srt_len hL (fun g q => (hcl g q).1)
  refine pm_isReplica (fun c => absurd rfl (c r hr)) (fun _ _ _ => ⟨fun _ => ⟨vp_in_nI hr (by omega), ?_⟩, fun c => absurd c (by decide)⟩)
  rw [tN (show r < 2 ^ 31 by omega)]
  refine pm_sortO hR hr hcl hL (fun I' R' O' => ⟨fun c => h0 (Or.inl c) I' _ R', fun c => ⟨fun c2 => h0 (Or.inr (Int32.not_lt.mpr c2)) I' _ R', fun c2 => ?_⟩⟩)
  obtain ⟨k, hk, e⟩ := nI_of c
  subst e
  have hk2 : k < L.length := by
    rcases Nat.lt_or_ge k L.length with q | q
    · exact q
    · exact absurd (nI_le q hk) c2
  rw [tN hk, O' k hk2]
  exact ⟨vp_in_nI (by omega) (by omega), h1 k hk2 rfl I' _ R'⟩
theorem pm_hashAt {post : Int64 → (Nat → Nat → Int32) → (Nat → Nat → Int64) → Int32 → Int64 → Int32 → Prop} {L : List Nat} {x : Int32} (hR : mR A dq I J cn) (hr : r < 4) (hcl : ho_cl A.1 A.2.1 (A.2.2.1 r)) (hL : ho_srt True A.1 (fun g => hb (A.2.2.1 r) g = true) L) (h0 : (x < 0 ∨ ¬ x < nI L.length) → ∀ I' so', mR A dq I' J cn → post 0 I' J cn cm so') (h1 : ∀ k, k < L.length → x = nI k → ∀ I' so', mR A dq I' J cn → post (A.1 (L.getD k 0)).1.1 I' J cn cm so') : wMhashAt post I J cn cm so (nI r) x := by
  have h40 : A.2.1 ≤ 40 := hR.kn.1
  refine pm_placeOf hR hr hcl hL (fun c I' so' R' => ⟨fun q => absurd q (by decide), fun _ => h0 c I' so' R'⟩) (fun k hk e I' so' R' => ?_)
  have hg := (hcl _ ((hL.1 _).mp (getD_mem hk))).1
  rw [tN (by omega), (R'.kn.2.2.2 _ hg).1]
  exact ⟨fun _ => ⟨vp_in_nI (by omega) (by omega), h1 k hk e I' so' R'⟩, fun q => absurd (nI_pos' (by omega)) q⟩
theorem pm_about {post : Int32 → (Nat → Nat → Int32) → (Nat → Nat → Int64) → Int32 → Int64 → Int32 → Prop} {L : List Nat} {x y : Int32} (hR : mR A dq I J cn) (hr : r < 4) (hcl : ho_cl A.1 A.2.1 (A.2.2.1 r)) (hL : ho_srt True A.1 (fun g => hb (A.2.2.1 r) g = true) L) (h0 : (x < 0 ∨ ¬ x < nI L.length) → ∀ I' so', mR A dq I' J cn → post (-1) I' J cn cm so') (h1 : ∀ k, k < L.length → x = nI k → ∀ I' so', mR A dq I' J cn → post (ho_abt (A.1 (L.getD k 0)) y) I' J cn cm so') : wMabout post I J cn cm so (nI r) x y := by
  have h40 : A.2.1 ≤ 40 := hR.kn.1
  refine pm_placeOf hR hr hcl hL (fun c I' so' R' => ⟨fun _ => h0 c I' so' R', fun q => absurd (by decide) q⟩) (fun k hk e I' so' R' => ?_)
  have hg := (hcl _ ((hL.1 _).mp (getD_mem hk))).1
  have hh := h1 k hk e I' so' R'
  obtain ⟨a1, ⟨b0, b1, b2, b3, b4, b5, b6⟩, a3, a4, a5⟩ := R'.kn.2.2.2 _ hg
  have b0 : I' 0 (L.getD k 0) = _ := b0
  have b1 : I' 1 (L.getD k 0) = _ := b1
  have b2 : I' 2 (L.getD k 0) = _ := b2
  have b3 : I' 3 (L.getD k 0) = _ := b3
  have b4 : I' 4 (L.getD k 0) = _ := b4
  rw [tN (by omega), b0, b1, b2, b3, b4, a4]
  have vg : vp_in (nI (L.getD k 0)) 40 := vp_in_nI (by omega) (by omega)
  have out : (∀ j : Nat, j < 6 → ¬ y = nI j) → post (-1) I' J cn cm so' := fun c => by
    unfold ho_abt at hh
    rw [if_neg (show ¬ y = 0 from c 0 (by omega)), if_neg (show ¬ y = 1 from c 1 (by omega)), if_neg (show ¬ y = 2 from c 2 (by omega)), if_neg (show ¬ y = 3 from c 3 (by omega)), if_neg (show ¬ y = 4 from c 4 (by omega)), if_neg (show ¬ y = 5 from c 5 (by omega))] at hh
    exact hh
  refine ⟨fun q => absurd q (nI_pos (by omega)), fun _ => ⟨fun q => out (fun j hj e2 => ?_), fun q => ?_⟩⟩
  · rw [e2] at q
    exact nI_pos (by omega) q
  · obtain ⟨j, hj, ey⟩ := nI_of q
    subst ey
    have e5 : ((nI j : Int32) ≤ 5 ↔ j ≤ 5) := by rw [show (5 : Int32) = nI 5 from rfl]; exact nI_leI hj (by omega)
    have e2 : ((2 : Int32) ≤ nI j ↔ 2 ≤ j) := by rw [show (2 : Int32) = nI 2 from rfl]; exact nI_leI (by omega) hj
    have e4 : ((4 : Int32) ≤ nI j ↔ 4 ≤ j) := by rw [show (4 : Int32) = nI 4 from rfl]; exact nI_leI (by omega) hj
    have q4 : (nI j = (4 : Int32) ↔ j = 4) := by rw [show (4 : Int32) = nI 4 from rfl]; exact nI_eq hj (by omega)
    have q2 : (nI j = (2 : Int32) ↔ j = 2) := by rw [show (2 : Int32) = nI 2 from rfl]; exact nI_eq hj (by omega)
    have q0 : (nI j = (0 : Int32) ↔ j = 0) := by rw [show (0 : Int32) = nI 0 from rfl]; exact nI_eq hj (by omega)
    rw [e5, e2, e4, q4, q2, q0]
    refine ⟨fun c5 => ⟨fun c2 => ⟨fun c4 => ⟨fun n4 => ⟨vg, ?_⟩, fun n4 => ⟨vg, ?_⟩⟩, fun c4 => ⟨fun n2 => ⟨vg, ?_⟩, fun n2 => ⟨vg, ?_⟩⟩⟩, fun c2 => ⟨fun n0 => ⟨vg, ?_⟩, fun n0 => ⟨vg, ?_⟩⟩⟩, fun c5 => out (fun i hi e3 => by have := (nI_eq hj (by omega)).mp e3; omega)⟩
    · have : j = 5 := by omega
      subst this
      exact hh
    · subst n4
      exact hh
    · have : j = 3 := by omega
      subst this
      exact hh
    · subst n2
      exact hh
    · have : j = 1 := by omega
      subst this
      exact hh
    · subst n0
      exact hh
theorem pm_linkAt {post : Int64 → (Nat → Nat → Int32) → (Nat → Nat → Int64) → Int32 → Int64 → Int32 → Prop} {L : List Nat} {x y : Int32} (hR : mR A dq I J cn) (hr : r < 4) (hcl : ho_cl A.1 A.2.1 (A.2.2.1 r)) (hL : ho_srt True A.1 (fun g => hb (A.2.2.1 r) g = true) L) (h0 : (x < 0 ∨ ¬ x < nI L.length) → ∀ I' so', mR A dq I' J cn → post 0 I' J cn cm so') (h1 : ∀ k, k < L.length → x = nI k → (y < 0 ∨ ¬ y < nI (A.1 (L.getD k 0)).1.2.2.length) → ∀ I' so', mR A dq I' J cn → post 0 I' J cn cm so') (h2 : ∀ k, k < L.length → x = nI k → ∀ j, j < (A.1 (L.getD k 0)).1.2.2.length → y = nI j → ∀ I' so', mR A dq I' J cn → post ((A.1 (L.getD k 0)).1.2.2.getD j 0) I' J cn cm so') : wMlinkAt post I J cn cm so (nI r) x y := by
  have h40 : A.2.1 ≤ 40 := hR.kn.1
  refine pm_placeOf hR hr hcl hL (fun c I' so' R' => ⟨fun _ => h0 c I' so' R', fun q => absurd (by decide) q⟩) (fun k hk e I' so' R' => ?_)
  have hg := (hcl _ ((hL.1 _).mp (getD_mem hk))).1
  obtain ⟨a1, ⟨b0, b1, b2, b3, b4, b5, b6⟩, a3, a4, a5⟩ := R'.kn.2.2.2 _ hg
  have b4 : I' 4 (L.getD k 0) = _ := b4
  rw [tN (show L.getD k 0 < 2 ^ 31 by omega), b4]
  refine ⟨fun q => absurd q (nI_pos (by omega)), fun _ => ⟨fun q => h1 k hk e (Or.inl q) I' so' R', fun q => ⟨vp_in_nI (by omega) (by omega), fun q2 => ?_, fun q2 => h1 k hk e (Or.inr q2) I' so' R'⟩⟩⟩
  obtain ⟨j, hj, ey⟩ := nI_of q
  subst ey
  have hj2 := (nI_ltI hj (by omega)).mp q2
  rw [n4, tN (by omega)]
  have b6 : J 1 (4 * (L.getD k 0) + j) = _ := b6 j hj2
  rw [b6]
  exact ⟨vp_in_nI (by omega) (by omega), h2 k hk e j hj2 rfl I' so' R'⟩
theorem pm_heads {post : Int32 → (Nat → Nat → Int32) → (Nat → Nat → Int64) → Int32 → Int64 → Int32 → Prop} {deep : Prop} {L : List Nat} (hR : mR A dq I J cn) (hr : r < 4) (hcl : ho_cl A.1 A.2.1 (A.2.2.1 r)) (hL : ho_srt deep A.1 (fun g => hb (ho_hds A.1 A.2.1 (A.2.2.1 r)) g = true) L) (h : post (nI L.length) I J cn cm so) : wMheads post I J cn cm so (nI r) := by
  have h40 : A.2.1 ≤ 40 := hR.kn.1
  refine pm_isReplica (fun c => absurd rfl (c r hr)) (fun _ _ _ => ⟨fun c => absurd c (by decide), fun _ => pm_headSet hR.kn hr (pm_size ?_)⟩)
  rw [hR.2.2.1 r hr, ← ho_cnt_len (srt_nodup hL.2) (fun g => (hL.1 g).trans ⟨fun q => ⟨by have := (hcl g (ho_hds_hb.mp q).1).1; omega, q⟩, fun q => q.2⟩)]
  exact h
theorem pm_headAt {post : Int64 → (Nat → Nat → Int32) → (Nat → Nat → Int64) → Int32 → Int64 → Int32 → Prop} {L : List Nat} {x : Int32} (hR : mR A dq I J cn) (hr : r < 4) (hcl : ho_cl A.1 A.2.1 (A.2.2.1 r)) (hL : ho_srt False A.1 (fun g => hb (ho_hds A.1 A.2.1 (A.2.2.1 r)) g = true) L) (h0 : (x < 0 ∨ ¬ x < nI L.length) → ∀ I' so', mR A dq I' J cn → post 0 I' J cn cm so') (h1 : ∀ k, k < L.length → x = nI k → ∀ I' so', mR A dq I' J cn → post (A.1 (L.getD k 0)).1.1 I' J cn cm so') : wMheadAt post I J cn cm so (nI r) x := by
  have h40 : A.2.1 ≤ 40 := hR.kn.1
  have hlt : ∀ g, g ∈ L → g < A.2.1 := fun g hg => (hcl g (ho_hds_hb.mp ((hL.1 g).mp hg)).1).1
  have hl := nodup_lt A.2.1 L (srt_nodup hL.2) hlt
  refine pm_isReplica (fun c => absurd rfl (c r hr)) (fun _ _ _ => ⟨fun _ => pm_sortH hR hr hcl hL (fun I' R' O' => ⟨fun c => h0 (Or.inl c) I' _ R', fun c => ⟨fun c2 => ?_, fun c2 => h0 (Or.inr c2) I' _ R'⟩⟩), fun c => absurd c (by decide)⟩)
  obtain ⟨k, hk, e⟩ := nI_of c
  subst e
  have hk2 := (nI_ltI hk (by omega)).mp c2
  have hg := hlt _ (getD_mem hk2)
  rw [tN hk, O' k hk2, tN (by omega), (R'.kn.2.2.2 _ hg).1]
  exact ⟨vp_in_nI (by omega) (by omega), vp_in_nI (by omega) (by omega), h1 k hk2 rfl I' _ R'⟩
theorem pm_v35 {post : Int32 → (Nat → Nat → Int32) → (Nat → Nat → Int64) → Int32 → Int64 → Int32 → Prop} {L : List Nat} {key : Int32} (hR : mR A dq I J cn) (hlt : ∀ g, g ∈ L → g < A.2.1) (hl40 : L.length ≤ 40) (hO : mOrd I L) : ∀ (Q P : List Nat) (s : Int32), P ++ Q = L → post (ho_val A.1 key Q s) I J cn cm (nI L.length) → wMvalue_35 post (Q.length + 1) I J cn cm (nI L.length) key s (nI P.length) := by
  have h40 : A.2.1 ≤ 40 := hR.kn.1
  intro Q
  induction Q with
  | nil =>
    intro P s e h
    rw [List.append_nil] at e
    subst e
    rw [List.length_nil, wMvalue_35_s]
    exact ⟨fun _ => h, fun c => absurd (nI_le (Nat.le_refl _) (by omega)) c⟩
  | cons g Q ih =>
    intro P s e h
    have hlen : L.length = P.length + (Q.length + 1) := by rw [← e, List.length_append, List.length_cons]
    have hgn : g < A.2.1 := hlt g (by rw [← e]; exact List.mem_append_right _ List.mem_cons_self)
    have hget : L.getD P.length 0 = g := by
      rw [← e, List.getD_eq_getElem?_getD, List.getElem?_append_right (Nat.le_refl _), Nat.sub_self]
      rfl
    obtain ⟨a1, ⟨b0, b1, b2, b3, -⟩, -⟩ := hR.kn.2.2.2 g hgn
    have b1 : I 1 g = _ := b1
    have b2 : I 2 g = _ := b2
    have b3 : I 3 g = _ := b3
    have hsh := (hR.1.2.2 g hgn).2.2.1
    have nx : ∀ s', post (ho_val A.1 key Q s') I J cn cm (nI L.length) → wMvalue_35 post (Q.length + 1) I J cn cm (nI L.length) key s' (nI P.length + 1) := fun s' hs => by
      have := ih (P ++ [g]) s' (by rw [List.append_assoc]; exact e) hs
      rw [List.length_append] at this
      rw [nI_1]
      exact this
    rw [ho_val] at h
    rw [List.length_cons, wMvalue_35_s, tN (show P.length < 2 ^ 31 by omega), hO P.length (by omega), hget, tN (show g < 2 ^ 31 by omega), b1, b2, b3]
    have vg : vp_in (nI g) 40 := vp_in_nI (by omega) (by omega)
    refine ⟨fun c => absurd c (nI_ge (by omega) (by omega)), fun _ => ⟨vp_in_nI (by omega) (by omega), vg, fun c => nx _ ?_, fun c => ⟨vg, fun c2 => nx _ ?_, fun c2 => ⟨vg, fun c3 => ⟨vg, fun x16 ex => nx _ ?_⟩, fun c3 => ⟨vg, fun x18 ex => nx _ ?_⟩⟩⟩⟩⟩
    · rw [if_neg (fun z => c z.2), if_neg (fun z => c z.2)] at h
      exact h
    · rw [if_neg (fun z => by rw [z.1] at c2; exact absurd c2 (by decide)), if_neg (fun z => by rw [z.1] at c2; exact absurd c2 (by decide))] at h
      exact h
    · have k0 := hsh.2.2.1
      have k1 : (A.1 g).1.2.1.2.1 = 1 := by
        have e0 : ¬ (A.1 g).1.2.1.2.1 < 0 := Int32.not_lt.mpr k0
        obtain ⟨j, hj, ej⟩ := nI_of e0
        rw [ej] at c2 c3 ⊢
        have h2 : ¬ 2 ≤ j := fun z => c2 (nI_le (a := 2) z hj)
        have h0 : ¬ j = 0 := fun z => c3 (by rw [z]; rfl)
        have : j = 1 := by omega
        rw [this]
        rfl
      rw [if_neg (fun z => c3 z.1), if_pos ⟨k1, c⟩] at h
      rw [ex]
      exact h
    · rw [if_pos ⟨c3, c⟩] at h
      rw [ex]
      exact h
theorem pm_value {post : Int32 → (Nat → Nat → Int32) → (Nat → Nat → Int64) → Int32 → Int64 → Int32 → Prop} {L : List Nat} {key : Int32} (hR : mR A dq I J cn) (hr : r < 4) (hcl : ho_cl A.1 A.2.1 (A.2.2.1 r)) (hL : ho_srt True A.1 (fun g => hb (A.2.2.1 r) g = true) L) (h0 : (key < 0 ∨ ¬ key < 8) → post 0 I J cn cm so) (h1 : ¬ key < 0 → key < 8 → ∀ I' so', mR A dq I' J cn → post (ho_val A.1 key L 0) I' J cn cm so') : wMvalue post I J cn cm so (nI r) key := by
  have h40 : A.2.1 ≤ 40 := hR.kn.1
  have hl := srt_len hL (fun g q => (hcl g q).1)
  refine pm_isReplica (fun c => absurd rfl (c r hr)) (fun _ _ _ => ⟨fun c => absurd c (by decide), fun _ => ⟨fun c => h0 (Or.inl c), fun c => ?_⟩⟩)
  obtain ⟨k, hk, e⟩ := nI_of c
  have e7 : (key ≤ 7 ↔ key < 8) := by
    rw [e, show (7 : Int32) = nI 7 from rfl, show (8 : Int32) = nI 8 from rfl, nI_leI hk (by omega), nI_ltI hk (by omega)]
    omega
  rw [e7]
  refine ⟨fun c2 => ⟨vp_in_nI hr (by omega), ?_⟩, fun c2 => h0 (Or.inr c2)⟩
  rw [tN (show r < 2 ^ 31 by omega)]
  exact pm_sortO hR hr hcl hL (fun I' R' O' => ⟨_, pm_v35 R' (fun g hg => (hcl g ((hL.1 g).mp hg)).1) (by omega) O' L [] 0 rfl (h1 c c2 I' _ R')⟩)
end MPC
