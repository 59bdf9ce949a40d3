/-! the reference: an operation arrives, and those that waited come after it -/
section HC
variable {K : Nat → ho_M} {n g : Nat} {hd : Int64} {wt : List ho_O} {o : ho_O}
theorem ho_c_held (hf : ho_find K o.1 n = some g) (c : hb hd g = true) : ho_come1 (K, n, hd, wt) o = ((K, n, hd, wt), 0) := by
  unfold ho_come1; simp only [hf, cif_t c]
theorem ho_c_kshape (hf : ho_find K o.1 n = some g) (c : ¬ hb hd g = true) (c2 : ¬ ho_shape (K g).1) : ho_come1 (K, n, hd, wt) o = ((K, n, hd, wt), 3) := by
  unfold ho_come1; simp only [hf, cif_f c, cif_f c2]
theorem ho_c_kwait (hf : ho_find K o.1 n = some g) (c : ¬ hb hd g = true) (c2 : ho_shape (K g).1) (c3 : ¬ ho_lh K n hd (K g).1.2.2) : ho_come1 (K, n, hd, wt) o = ((K, n, hd, ho_wait wt (K g).1), 2) := by
  unfold ho_come1; simp only [hf, cif_f c, cif_t c2, cif_f c3]
theorem ho_c_kin (hf : ho_find K o.1 n = some g) (c : ¬ hb hd g = true) (c2 : ho_shape (K g).1) (c3 : ho_lh K n hd (K g).1.2.2) : ho_come1 (K, n, hd, wt) o = ((K, n, hd ||| ho_bit g, wt), 1) := by
  unfold ho_come1; simp only [hf, cif_f c, cif_t c2, cif_t c3]
theorem ho_c_shape (hf : ho_find K o.1 n = none) (c2 : ¬ ho_shape o) : ho_come1 (K, n, hd, wt) o = ((K, n, hd, wt), 3) := by
  unfold ho_come1; simp only [hf, cif_f c2]
theorem ho_c_wait (hf : ho_find K o.1 n = none) (c2 : ho_shape o) (c3 : ¬ ho_lh K n hd o.2.2) : ho_come1 (K, n, hd, wt) o = ((K, n, hd, ho_wait wt o), 2) := by
  unfold ho_come1; simp only [hf, cif_t c2, cif_f c3]
theorem ho_c_not (hf : ho_find K o.1 n = none) (c2 : ho_shape o) (c3 : ho_lh K n hd o.2.2) (c4 : ¬ (n < 40 ∧ ho_right K n (ho_cand K n o))) : ho_come1 (K, n, hd, wt) o = ((K, n, hd, wt), 3) := by
  unfold ho_come1; simp only [hf, cif_t c2, cif_t c3, cif_f c4]
theorem ho_c_in (hf : ho_find K o.1 n = none) (c2 : ho_shape o) (c3 : ho_lh K n hd o.2.2) (c4 : n < 40 ∧ ho_right K n (ho_cand K n o)) : ho_come1 (K, n, hd, wt) o = ((ho_put K n (ho_cand K n o), n + 1, hd ||| ho_bit n, wt), 1) := by
  unfold ho_come1; simp only [hf, cif_t c2, cif_t c3, cif_t c4]
end HC
theorem va_up_s {α : Type} (f : Nat → α) (k : Nat) (x : α) : va_up f k x k = x := by simp [va_up]
theorem va_up_n {α : Type} {f : Nat → α} {k j : Nat} {x : α} (h : j ≠ k) : va_up f k x j = f j := by simp [va_up, h]
theorem va_up_id {α : Type} (f : Nat → α) (k : Nat) : va_up f k (f k) = f := by
  funext j
  by_cases h : j = k
  · rw [h, va_up_s]
  · rw [va_up_n h]
/-- the reference's arrays hold: the known ones, what each replica holds, what waits at each, the draft -/
def mRep (K : Nat → ho_M) (n : Nat) (hd : Nat → Int64) (wt : Nat → List ho_O) (dq : ho_O) (I : Nat → Nat → Int32) (J : Nat → Nat → Int64) (cn : Int32) : Prop := ho_ok K n ∧ mKn K n I J cn ∧ (∀ r, r < 4 → J 3 r = hd r) ∧ (∀ r, r < 4 → (wt r).length ≤ 5 ∧ (∀ o, o ∈ wt r → o.2.2.length ≤ 4) ∧ mWt I J r (wt r)) ∧ mNum (I 8) (J 6) dq
theorem mWt.fr {I I' : Nat → Nat → Int32} {J J' : Nat → Nat → Int64} {r : Nat} {wt : List ho_O} (h : mWt I J r wt) (h6 : I' 6 = I 6) (h7 : I' 7 = I 7) (h4 : J' 4 = J 4) (h5 : J' 5 = J 5) : mWt I' J' r wt := ⟨by rw [h6]; exact h.1, fun i hi => (h.2 i hi).mv (by rw [h4]) (fun k _ => by rw [h7]) (fun j _ => by rw [h5])⟩
section MP8
variable {K : Nat → ho_M} {n : Nat} {hd : Nat → Int64} {wt : Nat → List ho_O} {dq : ho_O} {I I' : Nat → Nat → Int32} {J J' : Nat → Nat → Int64} {cn : Int32} {cm : Int64} {so : Int32}
theorem mRep.fr (h : mRep K n hd wt dq I J cn) (hf : mFr I J I' J') : mRep K n hd wt dq I' J' cn := by
  obtain ⟨h0, h1, h2, h3, h4⟩ := h
  refine ⟨h0, h1.fr hf, fun r hr => by rw [hf.2 3 (by decide)]; exact h2 r hr, fun r hr => ⟨(h3 r hr).1, (h3 r hr).2.1, (h3 r hr).2.2.fr (hf.1 6 (by decide) (by decide)) (hf.1 7 (by decide) (by decide)) (hf.2 4 (by decide)) (hf.2 5 (by decide))⟩, ?_⟩
  rw [hf.1 8 (by decide) (by decide), hf.2 6 (by decide)]
  exact h4
theorem mRep.fw {r : Nat} {w1 : List ho_O} (h : mRep K n hd wt dq I J cn) (hr : r < 4) (hf : mFw I J I' J' r) (hl : w1.length ≤ 5) (hl4 : ∀ o, o ∈ w1 → o.2.2.length ≤ 4) (hw : mWt I' J' r w1) : mRep K n hd (va_up wt r w1) dq I' J' cn := by
  obtain ⟨h0, h1, h2, h3, h4⟩ := h
  obtain ⟨f1, f2, f3⟩ := hf
  refine ⟨h0, h1.ext (fun k g hk _ => by rw [f1 k (by omega) (by omega)]) (fun g _ => by rw [f2 0 (by decide) (by decide)]) (fun a _ => by rw [f2 1 (by decide) (by decide)]) (fun g _ => by rw [f2 2 (by decide) (by decide)]), fun r' hr' => by rw [f2 3 (by decide) (by decide)]; exact h2 r' hr', fun r' hr' => ?_, ?_⟩
  · by_cases e : r' = r
    · rw [e, va_up_s]; exact ⟨hl, hl4, hw⟩
    · rw [va_up_n e]
      exact ⟨(h3 r' hr').1, (h3 r' hr').2.1, f3 r' _ e hr' (by have := (h3 r' hr').1; omega) (h3 r' hr').2.2⟩
  · rw [f1 8 (by decide) (by decide), f2 6 (by decide) (by decide)]
    exact h4
theorem pm_a33 {post : Int32 → (Nat → Nat → Int32) → (Nat → Nat → Int64) → Int32 → Int64 → Int32 → Prop} {r : Nat} {o : ho_O} {v2 : Int32} (hR : mRep K n hd wt dq I J cn) (hr : r < 4) (ho : mNum (I 9) (J 7) o) (hsh : ¬ ho_shape o → post 3 I J cn cm so) (hwt : ho_shape o → ¬ ho_lh K n (hd r) o.2.2 → wMwaitAt (fun I_15 J_15 cn_15 cm_15 so_15 => (post 2 I_15 J_15 cn_15 cm_15 so_15)) I J cn cm so (nI r)) (hrt : ho_shape o → ho_lh K n (hd r) o.2.2 → ¬ ho_right K n (ho_cand K n o) → post 3 I J cn cm so) (hgo : ho_shape o → ho_lh K n (hd r) o.2.2 → ho_right K n (ho_cand K n o) → ((0 ≤ v2 → (wMarrive_79 post I J cn cm so (nI r) v2)) ∧ (¬ 0 ≤ v2 → ((¬ cn = 40 → (wMarrive_79 post I J cn cm so (nI r) v2)) ∧ (cn = 40 → (post 3 I J cn cm so)))))) : wMarrive_33 post I J cn cm so (nI r) v2 := by
  unfold wMarrive_33
  refine pm_inShape ho (bI_nr (fun c1 => pm_linksHeld hR.2.1 hr ho ?_) hsh)
  rw [hR.2.2.1 r hr]
  exact bI_nr (fun c2 => pm_isRight hR.2.1 ho (ho_lh_found c2) (bI_br (fun c3 => hrt c1 c2 c3) (fun c3 => hgo c1 c2 c3))) (fun c2 => hwt c1 c2)
theorem pm_a91 {post : Int32 → (Nat → Nat → Int32) → (Nat → Nat → Int64) → Int32 → Int64 → Int32 → Prop} {r g : Nat} (hR : mRep K n hd wt dq I J cn) (hr : r < 4) (h : ∀ J', mRep K n (va_up hd r (hd r ||| ho_bit g)) wt dq I J' cn → post 1 I J' cn cm so) : wMarrive_91 post I J cn cm so (nI r) (nI g) := by
  obtain ⟨h0, h1, h2, h3, h4⟩ := hR
  unfold wMarrive_91
  rw [tN (show r < 2 ^ 31 by omega), h2 r hr]
  refine ⟨vp_in_nI hr (by omega), vp_in_nI hr (by omega), fun J2 e2 => h J2 ⟨h0, h1.ext (fun _ _ _ _ => rfl) (fun g _ => by rw [e2, mj_n (by decide)]) (fun a _ => by rw [e2, mj_n (by decide)]) (fun g _ => by rw [e2, mj_n (by decide)]), fun r' hr' => ?_, fun r' hr' => ⟨(h3 r' hr').1, (h3 r' hr').2.1, (h3 r' hr').2.2.fr rfl rfl (by rw [e2, mj_n (by decide)]) (by rw [e2, mj_n (by decide)])⟩, by rw [e2, mj_n (by decide)]; exact h4⟩⟩
  rw [e2, mj_s]
  by_cases e : r' = r
  · rw [e, pk_uLs, va_up_s]; rfl
  · rw [pk_uLn e, va_up_n e]; exact h2 r' hr'
theorem pm_arrive {post : Int32 → (Nat → Nat → Int32) → (Nat → Nat → Int64) → Int32 → Int64 → Int32 → Prop} {r : Nat} {o : ho_O} (hR : mRep K n hd wt dq I J cn) (hr : r < 4) (ho : mNum (I 9) (J 7) o) (hcm : cm = o.1) (h : ∀ I' J' cn' cm', mRep (ho_come1 (K, n, hd r, wt r) o).1.1 (ho_come1 (K, n, hd r, wt r) o).1.2.1 (va_up hd r (ho_come1 (K, n, hd r, wt r) o).1.2.2.1) (va_up wt r (ho_come1 (K, n, hd r, wt r) o).1.2.2.2) dq I' J' cn' → post (ho_come1 (K, n, hd r, wt r) o).2 I' J' cn' cm' so) : wMarrive post I J cn cm so (nI r) := by
  have h40 := hR.1.1
  unfold wMarrive
  rw [hcm]
  refine pm_findK hR.2.1 ⟨vp_in_nI hr (by omega), ?_⟩
  rw [tN (show r < 2 ^ 31 by omega), hR.2.2.1 r hr]
  refine pm_in (fun g e => by have := (ho_find_some e).1; omega) ?_
  cases hf : ho_find K o.1 n with
  | some g =>
    have hg := (ho_find_some hf).1
    rw [bI_ext (show (∃ g', some g = some g' ∧ hb (hd r) g' = true) ↔ hb (hd r) g = true from ⟨fun ⟨g', e, q⟩ => by cases e; exact q, fun q => ⟨g, rfl, q⟩⟩)]
    refine bI_br (fun c => ⟨fun q => absurd q (nI_pos (show g < 2 ^ 31 by omega)), fun _ => ?_⟩) (fun c => ?_)
    · refine pm_become hR.2.1 hg (fun I1 J1 cm1 f1 m1 e1 => ?_)
      have hR1 := hR.fr f1
      obtain ⟨k1, k2, k3, k4, k5, k6⟩ := hR.1.2.2 g hg
      refine pm_a33 hR1 hr m1 (fun c2 => ?_) (fun c2 c3 => ?_) (fun c2 c3 c4 => ?_) (fun c2 c3 c4 => ?_)
      · rw [ho_c_kshape hf c c2, va_up_id, va_up_id] at h
        exact h _ _ _ _ hR1
      · rw [ho_c_kwait hf c c2 c3, va_up_id] at h
        exact pm_waitAt hr (hR1.2.2.2.1 r hr).1 (hR1.2.2.2.1 r hr).2.2 m1 e1 (fun I2 J2 f2 w2 => h _ _ _ _ (hR1.fw hr f2 (ho_wait_len (hR1.2.2.2.1 r hr).1) (fun x hx => by
          rcases ho_wait_mem hx with q | q
          · exact (hR1.2.2.2.1 r hr).2.1 x q
          · rw [q]; exact k6) w2))
      · rw [← k2] at c4
        exact absurd k4 c4
      · refine ⟨fun _ => ⟨fun _ => ?_, fun q => absurd (nI_pos' (show g < 2 ^ 31 by omega)) q⟩, fun q => absurd (nI_pos' (show g < 2 ^ 31 by omega)) q⟩
        rw [ho_c_kin hf c c2 c3, va_up_id] at h
        exact pm_a91 hR1 hr (fun J2 q => h _ _ _ _ q)
    · rw [ho_c_held hf c, va_up_id, va_up_id] at h
      exact h _ _ _ _ hR
  | none =>
    rw [bI_f (P := ∃ g, none = some g ∧ hb (hd r) g = true) (fun ⟨g, e, _⟩ => by cases e)]
    have hneg : ¬ (0 : Int32) ≤ mIx none := by decide
    have hlen := ho.2.2.2.2.2.1
    refine ⟨fun _ => ⟨fun _ => ?_, fun q => absurd (show mIx none < 0 by decide) q⟩, fun q => absurd rfl q⟩
    refine pm_a33 hR hr ho (fun c2 => ?_) (fun c2 c3 => ?_) (fun c2 c3 c4 => ?_) (fun c2 c3 c4 => ?_)
    · rw [ho_c_shape hf c2, va_up_id, va_up_id] at h
      exact h _ _ _ _ hR
    · rw [ho_c_wait hf c2 c3, va_up_id] at h
      exact pm_waitAt hr (hR.2.2.2.1 r hr).1 (hR.2.2.2.1 r hr).2.2 ho rfl (fun I2 J2 f2 w2 => h _ _ _ _ (hR.fw hr f2 (ho_wait_len (hR.2.2.2.1 r hr).1) (fun x hx => by
        rcases ho_wait_mem hx with q | q
        · exact (hR.2.2.2.1 r hr).2.1 x q
        · rw [q]; exact hlen) w2))
    · rw [ho_c_not hf c2 c3 (fun q => c4 q.2), va_up_id, va_up_id] at h
      exact h _ _ _ _ hR
    · refine ⟨fun q => absurd q hneg, fun _ => ?_⟩
      rw [hR.2.1.2.1, show (40 : Int32) = nI 40 from rfl, nI_eq (by omega) (by omega)]
      refine ⟨fun q => ⟨fun z => absurd z hneg, fun _ => ?_⟩, fun q => ?_⟩
      · have hn : n < 40 := by omega
        rw [ho_c_in hf c2 c3 ⟨hn, c4⟩, va_up_id] at h
        refine pm_enter (by have := hR.2.1; rw [this.2.1] at this; exact this) hn ho rfl hf (by have := ho_cand_dep hR.1 (o := o); omega) (ho_lh_found c3) (fun I2 J2 k2 i2 j2 => ?_)
        have hR2 : mRep (ho_put K n (ho_cand K n o)) (n + 1) hd wt dq I2 J2 (nI (n + 1)) := by
          obtain ⟨h0, h1, h2, h3, h4⟩ := hR
          refine ⟨ho_ok_put h0 hn hlen c2 hf (ho_lh_found c3) c4, k2, fun r' hr' => by rw [j2 3 (by omega)]; exact h2 r' hr', fun r' hr' => ⟨(h3 r' hr').1, (h3 r' hr').2.1, (h3 r' hr').2.2.fr (i2 6 (by omega)) (i2 7 (by omega)) (j2 4 (by omega)) (j2 5 (by omega))⟩, by rw [i2 8 (by omega), j2 6 (by omega)]; exact h4⟩
        exact pm_a91 hR2 hr (fun J3 q3 => h _ _ _ _ q3)
      · rw [ho_c_not hf c2 c3 (fun z => by omega), va_up_id, va_up_id] at h
        have hR' := hR
        rw [hR.2.1.2.1] at hR'
        exact h _ _ _ _ hR'
end MP8
