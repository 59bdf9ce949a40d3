/-! the class: an operation comes, and those that waited come after it -/
theorem ho_first_un {S : ho_V} {i j : Nat} (h : ho_first S i) (h2 : ho_first S j) : i = j := by
  rcases Nat.lt_trichotomy i j with q | q | q
  · exact absurd h.2.1 (h2.2.2 i q)
  · exact q
  · exact absurd h2.2.1 (h.2.2 j q)
theorem ho_hds_put {K : Nat → ho_M} {n : Nat} {hd : Int64} {m : ho_M} (hc : ho_cl K n hd) (i : Nat) : hb (ho_hds (ho_put K n m) (n + 1) hd) i = true ↔ hb (ho_hds K n hd) i = true := by
  rw [ho_hds_hb, ho_hds_hb]
  refine and_congr Iff.rfl ⟨fun h g hg q => ?_, fun h g _ q => ?_⟩
  · have := h g (by omega) q
    rw [ho_put_lt hg] at this
    exact this
  · have hg := (hc g q).1
    rw [ho_put_lt hg]
    exact h g hg q
theorem ho_srt_iff {deep : Prop} {K : Nat → ho_M} {P Q : Nat → Prop} {L : List Nat} (h : ho_srt deep K P L) (e : ∀ g, P g ↔ Q g) : ho_srt deep K Q L := ⟨fun g => (h.1 g).trans (e g), h.2⟩
section XC
variable {ad mb : Nat → Nat} {K : Nat → ho_M} {n : Nat} {hd : Nat → Int64} {wt : Nat → List ho_O} {dr : Nat → ho_O} {w w' : fh_T} {r : Nat}
theorem xR.ext (hR : xR ad mb K n hd wt dr w) (hE : xE w w') : xR ad mb K n hd wt dr w' := by
  obtain ⟨ea, Ls, hW, h⟩ := hR
  exact ⟨ea, Ls, hW.ext hE, h⟩
theorem xR.v (hR : xR ad mb K n hd wt dr w) : xV ad mb K n w := by
  obtain ⟨ea, Ls, hW, h0, -⟩ := hR
  exact hW.v h0
theorem xR.ok (hR : xR ad mb K n hd wt dr w) : ho_ok K n := by
  obtain ⟨ea, Ls, hW, h0, h, -⟩ := hR
  exact h
theorem xR.re (hR : xR ad mb K n hd wt dr w) (hr : r < 4) : w (ad (25 + r)) = some (.inr (4, [.ref (ad 1), .ref (ad (9 + 4 * r)), .ref (ad (11 + 4 * r)), .ref (ad (29 + r)), .long (hd r)])) := by
  obtain ⟨ea, Ls, ⟨-, -, -, -, -, -, -, cre, -⟩, -⟩ := hR
  exact cre r hr
theorem xR.ls (hR : xR ad mb K n hd wt dr w) (hr : r < 4) : (∃ e, xL ad w (ad (29 + r)) e (wt r)) ∧ (wt r).length ≤ 5 ∧ ∀ o, o ∈ wt r → o.2.2.length ≤ 4 := by
  obtain ⟨ea, Ls, ⟨-, -, -, -, -, -, -, -, cl, -⟩, -, -, h, -⟩ := hR
  exact ⟨⟨_, cl r hr⟩, h r hr⟩
theorem xR.cl (hR : xR ad mb K n hd wt dr w) (hr : r < 4) : ho_cl K n (hd r) := by
  obtain ⟨ea, Ls, -, -, -, -, h⟩ := hR
  exact (h r hr).1
theorem xR.vok (hR : xR ad mb K n hd wt dr w) (hr : r < 4) : ho_vok (K, n, hd r, wt r) := ⟨hR.ok, (hR.ls hr).2⟩
theorem xR.m (hR : xR ad mb K n hd wt dr w) {g : Nat} (hg : g < n) : xM ad w (mb g) g (K g) := hR.v.2.2 g hg
theorem kx_addK {post : fh_T → Prop} {q : Nat} {m : ho_M} (hR : xR ad mb K n hd wt dr w) (hq : xM ad w q n m) (hok' : ho_ok (ho_put K n m) (n + 1)) (h : ∀ w', xF ad w w' → xR ad (va_up mb n q) (ho_put K n m) (n + 1) hd wt dr w' → post w') : wKXKn_add post w (ad 1) q := by
  obtain ⟨hn, c1, c7, f, c8, hf⟩ := hR.v.cells
  obtain ⟨ea, Ls, hW, h0, hok, hwt, hall⟩ := hR
  have hn40 := hok'.1
  have hW1 := hW.more hq
  obtain ⟨-, -, -, -, -, -, cr, -, -, cm, -⟩ := id hW1
  have r0 := cr 0 (by omega)
  rw [h0] at r0
  obtain ⟨oq, mq, -⟩ := id hq
  have hlen : (List.range n).length = n := List.length_range
  refine ⟨_, ⟨_, c1, rfl⟩, _, ⟨_, c1, rfl⟩, _, ⟨_, c7, rfl⟩, _, c7, kx_insert (p := n) r0 mq (fun x hx => ?_) (by rw [hlen]; exact Nat.le_refl _) (by rw [hlen]; omega) (fun w7 fr7 row7 => ?_)⟩
  · obtain ⟨ox, mx, -⟩ := cm x (by have := List.mem_range.mp hx; omega)
    exact ⟨_, mx⟩
  · have e1 : (List.range n).take n ++ n :: (List.range n).drop n = List.range (n + 1) := by
      rw [List.take_of_length_le (by rw [hlen]; exact Nat.le_refl _), List.drop_eq_nil_of_le (by rw [hlen]; exact Nat.le_refl _), List.range_succ]
    have R7 := row7 (va_up mb n q) n (fun _ _ => rfl) (va_up_s _ _ _)
    rw [e1] at R7
    obtain ⟨F7, W7⟩ := hW1.rowu (show 0 < 9 by omega) fr7 R7 (fun x hx => List.mem_range.mp hx)
    refine h w7 F7 ⟨_, _, W7, va_up_s _ _ _, hok', hwt, fun r hr => ?_⟩
    obtain ⟨g1, g2, g3⟩ := hall r hr
    rw [va_up_n (by omega), va_up_n (by omega)]
    refine ⟨fun g hg => ?_, ⟨g2.1, srt_ext g2.2 (fun g hg => ho_put_lt (g1 g ((g2.1 g).mp hg)).1)⟩, ?_⟩
    · have := g1 g hg
      rw [ho_put_lt this.1]
      exact ⟨by omega, this.2⟩
    · exact ho_srt_iff ⟨g3.1, srt_ext g3.2 (fun g hg => ho_put_lt (g1 g (ho_hds_hb.mp ((g3.1 g).mp hg)).1).1)⟩ (fun g => (ho_hds_put g1 g).symm)
theorem kx_lw2 {post : fh_T → Prop} {mc ms a : Nat} {o : ho_O} (hR : xR ad mb K n hd wt dr w) (hr : r < 4) (ho : xO ad w a o) (hmc : 1 ≤ mc) (hms : 10 ≤ ms) (h : ∀ w', xF ad w w' → xR ad mb K n hd (va_up wt r (ho_wait (wt r) o)) dr w' → post w') : ∀ d k, k + d = (wt r).length → (∀ j, j < k → ((wt r).getD j ho_O0).1 ≠ o.1) → wKXRe_letWait_2 post (d + 1) w mc ms (ad (25 + r)) a (nI k) := by
  obtain ⟨⟨e0, hL⟩, hl5, hl4⟩ := hR.ls hr
  have hre := hR.re hr
  obtain ⟨mo, l1, -⟩ := id hL
  intro d
  induction d with
  | zero =>
    intro k e hno
    have e : k = (wt r).length := by omega
    subst e
    have hany : (wt r).any (fun x => x.1 == o.1) = false := by
      rw [List.any_eq_false]
      intro x hx
      obtain ⟨j, hj⟩ := List.mem_iff_getElem?.mp hx
      have hj2 := (List.getElem?_eq_some_iff.mp hj).1
      have := hno j hj2
      rw [List.getD_eq_getElem?_getD, hj] at this
      simpa using this
    rw [wKXRe_letWait_2_s]
    refine ⟨_, ⟨_, hre, rfl⟩, _, l1, kx_size hL ⟨fun _ => ?_, fun c => absurd (nI_le (Nat.le_refl _) (by omega)) c⟩⟩
    obtain ⟨ea, Ls, hW, h0, hok, hwt, hall⟩ := id hR
    obtain ⟨-, -, -, -, -, -, -, -, cl, -⟩ := id hW
    have hwd : ho_wait (wt r) o = if 5 < ((wt r) ++ [o]).length then ((wt r) ++ [o]).eraseIdx 0 else (wt r) ++ [o] := by
      unfold ho_wait
      rw [hany]
      rfl
    have hol : ∀ x, x ∈ (wt r) ++ [o] → x.2.2.length ≤ 4 := fun x hx => by
      rcases List.mem_append.mp hx with q | q
      · exact hl4 x q
      · rw [List.mem_singleton.mp q]
        obtain ⟨la, lf, -, -, -, -, -, z⟩ := ho
        exact z
    refine ⟨_, ⟨_, hre, rfl⟩, _, l1, mc, ms, 0, 0, by omega, by omega, kx_add (cl r hr) (by omega) ho hmc hms (fun ea' w9 fr9 he9 L9 => ?_)⟩
    obtain ⟨F9, W9⟩ := hW.lst hr fr9 he9 L9
    obtain ⟨-, -, -, -, -, -, -, cre9, cl9, -⟩ := id W9
    obtain ⟨mo9, l9, -⟩ := id L9
    refine ⟨_, ⟨_, cre9 r hr, rfl⟩, _, l9, kx_size L9 ?_⟩
    rw [show (5 : Int32) = nI 5 from rfl, nI_leI (by simp; omega) (by omega)]
    refine ⟨fun c => h w9 F9 ?_, fun c => ⟨_, ⟨_, cre9 r hr, rfl⟩, _, l9, kx_remove (i := 0) L9 (by simp; omega) (by simp) (fun oa w24 _ fr24 L24 => ⟨_, rfl, ?_⟩)⟩⟩
    · rw [hwd, if_neg (by omega)]
      refine ⟨_, _, W9, h0, hok, fun s hs => ?_, hall⟩
      by_cases z : s = r
      · subst z
        rw [va_up_s]
        exact ⟨c, hol⟩
      · rw [va_up_n z]
        exact hwt s hs
    · have fr24' : ∀ a, w9 a ≠ none → a ≠ ad (29 + r) → (a = va_up ea r ea' r → w9 a = some fh_mark) → w24 a = w9 a := by
        rw [va_up_s]
        exact fr24
      obtain ⟨F24, W24⟩ := W9.lst hr (e' := ea') fr24' (Or.inl (va_up_s _ _ _).symm) L24
      rw [bx_uu, bx_uu] at W24
      refine h w24 (F9.tr F24) ?_
      rw [hwd, if_pos (by omega)]
      refine ⟨_, _, W24, h0, hok, fun s hs => ?_, hall⟩
      by_cases z : s = r
      · subst z
        rw [va_up_s]
        refine ⟨?_, fun x hx => hol x (List.mem_of_mem_eraseIdx hx)⟩
        rw [List.length_eraseIdx_of_lt (by simp)]
        simp
        omega
      · rw [va_up_n z]
        exact hwt s hs
  | succ d ih =>
    intro k e hno
    have hk : k < (wt r).length := by omega
    obtain ⟨la, lf, o1, -⟩ := id ho
    rw [wKXRe_letWait_2_s]
    refine ⟨_, ⟨_, hre, rfl⟩, _, l1, kx_size hL ⟨fun c => absurd c (nI_ge hk (by omega)), fun _ => ⟨_, ⟨_, hre, rfl⟩, _, l1, kx_get hL (by omega) hk (fun oa hoa => ?_)⟩⟩⟩
    obtain ⟨lb, lg, o2, -⟩ := id hoa
    refine ⟨_, rfl, _, o2, _, ⟨_, o2, rfl⟩, _, ⟨_, o1, rfl⟩, ?_⟩
    rw [lg_cmp_eq]
    refine ⟨fun q => ?_, fun q => ?_⟩
    · rw [nI_1]
      refine ih (k + 1) (by omega) (fun j hj => ?_)
      by_cases z : j = k
      · rw [z]; exact q
      · exact hno j (by omega)
    · have hany : (wt r).any (fun x => x.1 == o.1) = true := by
        rw [List.any_eq_true]
        refine ⟨(wt r).getD k ho_O0, ho_mem_get hk, by simpa using q⟩
      have hwd : ho_wait (wt r) o = wt r := by
        unfold ho_wait
        rw [hany]
        rfl
      refine h w xF.rf ?_
      rw [hwd, va_up_id]
      exact hR
theorem kx_letWait {post : fh_T → Prop} {mc ms a : Nat} {o : ho_O} (hR : xR ad mb K n hd wt dr w) (hr : r < 4) (ho : xO ad w a o) (hmc : 1 ≤ mc) (hms : 10 ≤ ms) (h : ∀ w', xF ad w w' → xR ad mb K n hd (va_up wt r (ho_wait (wt r) o)) dr w' → post w') : wKXRe_letWait post w mc ms (ad (25 + r)) a := ⟨_, kx_lw2 hR hr ho hmc hms h _ 0 (Nat.zero_add _) (fun j hj => absurd hj (Nat.not_lt_zero _))⟩
theorem kx_receive {post : Int32 → fh_T → Prop} {mc ms a : Nat} {o : ho_O} (hR : xR ad mb K n hd wt dr w) (hr : r < 4) (ho : xO ad w a o) (hmc : 1 ≤ mc) (hms : 10 ≤ ms) (h : ∀ mb' w', xF ad w w' → xR ad mb' (ho_come1 (K, n, hd r, wt r) o).1.1 (ho_come1 (K, n, hd r, wt r) o).1.2.1 (va_up hd r (ho_come1 (K, n, hd r, wt r) o).1.2.2.1) (va_up wt r (ho_come1 (K, n, hd r, wt r) o).1.2.2.2) dr w' → post (ho_come1 (K, n, hd r, wt r) o).2 w') : wKXRe_receive post w mc ms (ad (25 + r)) a := by
  have hre := hR.re hr
  have hok := hR.ok
  have h40 := hok.1
  obtain ⟨hn, c1, c7, f, c8, hf⟩ := hR.v.cells
  obtain ⟨la, lf, o1, -, -, -, -, ol⟩ := id ho
  refine ⟨_, ⟨_, hre, rfl⟩, _, ⟨_, o1, rfl⟩, _, c1, kx_find hR.v hok.2.1 ?_⟩
  cases q : ho_find K o.1 n with
  | none =>
    refine ⟨fun _ => ⟨_, hre, fun _ => ?_, fun c => absurd rfl c⟩, fun y c => by cases c⟩
    refine ⟨_, o1, kx_inShape ho (bI_nr (fun c2 => ⟨_, hre, kx_holdsLinks hR.v hok.2.1 hre ho (bI_nr (fun c3 => ⟨_, ⟨_, hre, rfl⟩, _, c1, 1, 10, mc - 1, ms - 10, by omega, by omega, kx_candidate hR.v hok ho (by omega) (by omega) (fun q1 w1 E1 hq1 M1 => ?_)⟩) (fun c3 => ⟨_, hre, mc, ms, 0, 0, by omega, by omega, kx_letWait hR hr ho hmc hms (fun w2 F2 R2 => ?_)⟩))⟩) (fun c2 => ?_))⟩
    · have R1 := hR.ext E1
      have hre1 := R1.re hr
      have c11 := E1.at c1
      refine ⟨_, rfl, _, ⟨_, hre1, rfl⟩, _, c11, kx_isFull R1.v (bI_nr (fun c4 => ?_) (fun c4 => ⟨_, ⟨_, hre1, rfl⟩, _, c11, kx_isRight R1.v M1 (bI_nr (fun c5 => ⟨_, ⟨_, hre1, rfl⟩, _, c11, ?_⟩) (fun c5 => ?_))⟩))⟩
      · rw [ho_c_not q c2 c3 (fun z => c4 z.1)] at h
        refine h mb w1 E1.fr ?_
        dsimp only
        rw [va_up_id, va_up_id]
        exact R1
      · have hn40 : n < 40 := Decidable.not_not.mp c4
        have hok' := ho_ok_put hok hn40 ol c2 q (ho_lh_found c3) c5
        rw [ho_c_in q c2 c3 ⟨hn40, c5⟩] at h
        refine kx_addK R1 M1 hok' (fun w2 F2 R2 => ⟨_, R2.re hr, ?_⟩)
        have := kx_hold (post := fun w_78 => post 1 w_78) (g := n) R2 hr (by omega) (fun z => absurd (hR.cl hr n z).1 (Nat.lt_irrefl _)) (fun i hi => ?_) (fun w3 F3 R3 => h _ w3 (E1.fr.tr (F2.tr F3)) (by dsimp only; rw [va_up_id]; exact R3))
        · rw [va_up_s] at this
          exact this
        · rw [ho_put_n] at hi
          have hi2 : hb (ho_cd K n o.2.2 o.2.2.length).2.1 i = true := hi
          rw [ho_cd_ls (by omega)] at hi2
          obtain ⟨b, hb1, hb2⟩ := hi2
          have := c3 b hb1
          unfold ho_has at this
          rw [hb2] at this
          exact this
      · rw [ho_c_not q c2 c3 (fun z => c5 z.2)] at h
        refine h mb w1 E1.fr ?_
        dsimp only
        rw [va_up_id, va_up_id]
        exact R1
    · rw [ho_c_wait q c2 c3] at h
      refine h mb w2 F2 ?_
      dsimp only
      rw [va_up_id]
      exact R2
    · rw [ho_c_shape q c2] at h
      refine h mb w xF.rf ?_
      dsimp only
      rw [va_up_id, va_up_id]
      exact hR
  | some g =>
    have hg := (ho_find_some q).1
    refine ⟨fun c => (by cases c), fun y c => ?_⟩
    cases c
    obtain ⟨oa, m1, mO⟩ := id (hR.m hg)
    obtain ⟨lb, lg, o2, -⟩ := id mO
    refine ⟨_, hre, kx_holds hre (hR.m hg) (by omega) (bI_br (fun c1' => ⟨_, ⟨_, m1, rfl⟩, _, o2, kx_inShape mO (bI_nr (fun c2 => ⟨_, hre, kx_holdsLinks hR.v hok.2.1 hre mO (bI_nr (fun c3 => ⟨_, hre, kx_hold hR hr hg c1' (ho_lh_bits hok hg c3) (fun w3 F3 R3 => ?_)⟩) (fun c3 => ⟨_, hre, mc, ms, 0, 0, by omega, by omega, kx_letWait hR hr mO hmc hms (fun w2 F2 R2 => ?_)⟩))⟩) (fun c2 => ?_))⟩) (fun c1' => ?_))⟩
    · rw [ho_c_kin q c1' c2 c3] at h
      refine h mb w3 F3 ?_
      dsimp only
      rw [va_up_id]
      exact R3
    · rw [ho_c_kwait q c1' c2 c3] at h
      refine h mb w2 F2 ?_
      dsimp only
      rw [va_up_id]
      exact R2
    · rw [ho_c_kshape q c1' c2] at h
      refine h mb w xF.rf ?_
      dsimp only
      rw [va_up_id, va_up_id]
      exact hR
    · rw [ho_c_held q c1'] at h
      refine h mb w xF.rf ?_
      dsimp only
      rw [va_up_id, va_up_id]
      exact hR
theorem kx_fr2 {post : Int32 → fh_T → Prop} (hR : xR ad mb K n hd wt dr w) (hr : r < 4) (h0 : ho_idle (K, n, hd r, wt r) → post (-1) w) (h1 : ∀ i, ho_first (K, n, hd r, wt r) i → post (nI i) w) : ∀ d k, k + d = (wt r).length → (∀ j, j < k → ¬ ho_lh K n (hd r) ((wt r).getD j ho_O0).2.2) → wKXRe_firstReady_2 post (d + 1) w (ad (25 + r)) (nI k) := by
  obtain ⟨⟨e0, hL⟩, hl5, hl4⟩ := hR.ls hr
  have hre := hR.re hr
  obtain ⟨mo, l1, -⟩ := id hL
  intro d
  induction d with
  | zero =>
    intro k e hno
    have e : k = (wt r).length := by omega
    subst e
    rw [wKXRe_firstReady_2_s]
    exact ⟨_, ⟨_, hre, rfl⟩, _, l1, kx_size hL ⟨fun _ => h0 hno, fun c => absurd (nI_le (Nat.le_refl _) (by omega)) c⟩⟩
  | succ d ih =>
    intro k e hno
    have hk : k < (wt r).length := by omega
    rw [wKXRe_firstReady_2_s]
    refine ⟨_, ⟨_, hre, rfl⟩, _, l1, kx_size hL ⟨fun c => absurd c (nI_ge hk (by omega)), fun _ => ⟨_, ⟨_, hre, rfl⟩, _, l1, kx_get hL (by omega) hk (fun oa hoa => ?_)⟩⟩⟩
    obtain ⟨lb, lg, o2, -⟩ := id hoa
    refine ⟨_, rfl, _, o2, _, hre, kx_holdsLinks hR.v hR.ok.2.1 hre hoa (bI_br (fun q => ?_) (fun q => h1 k ⟨hk, q, hno⟩))⟩
    rw [nI_1]
    refine ih (k + 1) (by omega) (fun j hj => ?_)
    by_cases z : j = k
    · rw [z]; exact q
    · exact hno j (by omega)
theorem kx_firstReady {post : Int32 → fh_T → Prop} (hR : xR ad mb K n hd wt dr w) (hr : r < 4) (h0 : ho_idle (K, n, hd r, wt r) → post (-1) w) (h1 : ∀ i, ho_first (K, n, hd r, wt r) i → post (nI i) w) : wKXRe_firstReady post w (ad (25 + r)) := ⟨_, kx_fr2 hR hr h0 h1 _ 0 (Nat.zero_add _) (fun j hj => absurd hj (Nat.not_lt_zero _))⟩
end XC
theorem kx_w8 {ad : Nat → Nat} {dr : Nat → ho_O} {r : Nat} {post : Int32 → fh_T → Prop} {ans : Int32} (hr : r < 4) : ∀ (k : Nat) (S T : ho_V), k ≤ 10 → ho_runs k S T → ∀ (mb : Nat → Nat) (K : Nat → ho_M) (n : Nat) (hd : Nat → Int64) (wt : Nat → List ho_O) (w : fh_T) (mc ms : Nat), S = (K, n, hd r, wt r) → xR ad mb K n hd wt dr w → k ≤ mc → 10 * k ≤ ms → (∀ mb' w', xF ad w w' → xR ad mb' T.1 T.2.1 (va_up hd r T.2.2.1) (va_up wt r T.2.2.2) dr w' → post ans w') → wKXRe_welcome_8 post (k + 1) w mc ms (ad (25 + r)) ans (nI (10 - k)) := by
  have fin : ∀ (S T : ho_V), T = S → ∀ (mb : Nat → Nat) (K : Nat → ho_M) (n : Nat) (hd : Nat → Int64) (wt : Nat → List ho_O) (w : fh_T), S = (K, n, hd r, wt r) → xR ad mb K n hd wt dr w → (∀ mb' w', xF ad w w' → xR ad mb' T.1 T.2.1 (va_up hd r T.2.2.1) (va_up wt r T.2.2.2) dr w' → post ans w') → post ans w := by
    intro S T e mb K n hd wt w e2 hR h
    subst e
    subst e2
    refine h mb w xF.rf ?_
    dsimp only
    rw [va_up_id, va_up_id]
    exact hR
  intro k
  induction k with
  | zero =>
    intro S T _ hT mb K n hd wt w mc ms e hR _ _ h
    rw [wKXRe_welcome_8_s]
    exact ⟨fun _ => fin S T hT.2 mb K n hd wt w e hR h, fun c => absurd (by decide) c⟩
  | succ k ih =>
    intro S T hk hT mb K n hd wt w mc ms e hR hmc hms h
    rw [wKXRe_welcome_8_s, show (10 : Int32) = nI 10 from rfl, nI_leI (by omega) (by omega)]
    refine ⟨fun c => by omega, fun _ => ⟨_, hR.re hr, kx_firstReady hR hr (fun hid => ?_) (fun i hi => ?_)⟩⟩
    · refine ⟨fun c => absurd c (by decide), fun _ => ?_⟩
      rcases hT with ⟨-, h2⟩ | ⟨i, hf, -⟩
      · exact fin S T h2 mb K n hd wt w e hR h
      · subst e
        exact absurd hf.2.1 (hid i hf.1)
    · subst e
      rcases hT with ⟨h1, -⟩ | ⟨i', hf, hT⟩
      · exact absurd hi.2.1 (h1 i hi.1)
      · have ei := ho_first_un hf hi
        subst ei
        obtain ⟨⟨e0, hL0⟩, hl5, hl4⟩ := hR.ls hr
        obtain ⟨ea, Ls, hW, h0, hok, hwt, hall⟩ := id hR
        obtain ⟨-, -, -, -, -, -, -, -, cl, -⟩ := id hW
        have hL := cl r hr
        obtain ⟨mo, l1, -⟩ := id hL
        have hi1 : i' < (wt r).length := hi.1
        refine ⟨fun _ => ⟨_, ⟨_, hR.re hr, rfl⟩, _, l1, kx_remove hL (by omega) hi1 (fun oa w2 hoa fr2 L2 => ?_)⟩, fun c => absurd (nI_pos' (by omega)) c⟩
        obtain ⟨F2, W2⟩ := hW.lst hr fr2 (Or.inl rfl) L2
        have hel : ((wt r).eraseIdx i').length ≤ 5 := by rw [List.length_eraseIdx_of_lt hi1]; omega
        have R2 : xR ad mb K n hd (va_up wt r ((wt r).eraseIdx i')) dr w2 := ⟨_, _, W2, h0, hok, fun s hs => by
          by_cases z : s = r
          · subst z
            rw [va_up_s]
            exact ⟨hel, fun x hx => hl4 x (List.mem_of_mem_eraseIdx hx)⟩
          · rw [va_up_n z]
            exact hwt s hs, hall⟩
        have hoa2 := hoa.fr F2
        obtain ⟨la, lf, o1, -⟩ := id hoa2
        refine ⟨_, rfl, _, o1, _, R2.re hr, 1, 10, mc - 1, ms - 10, by omega, by omega, kx_receive R2 hr hoa2 (Nat.le_refl _) (Nat.le_refl _) (fun mb3 w3 F3 R3 => ?_)⟩
        rw [va_up_s] at R3
        rw [nI_1, show 10 - (k + 1) + 1 = 10 - k by omega]
        refine ih _ T (by omega) hT mb3 _ _ _ _ w3 (mc - 1) (ms - 10) ?_ R3 (by omega) (by omega) (fun mb4 w4 F4 R4 => h mb4 w4 (F2.tr (F3.tr F4)) ?_)
        · rw [va_up_s, va_up_s]
          rfl
        · rw [bx_uu, bx_uu, bx_uu] at R4
          exact R4
theorem kx_welcome {ad mb : Nat → Nat} {K : Nat → ho_M} {n : Nat} {hd : Nat → Int64} {wt : Nat → List ho_O} {dr : Nat → ho_O} {w : fh_T} {r mc ms a : Nat} {o : ho_O} {T : ho_V} {post : Int32 → fh_T → Prop} (hR : xR ad mb K n hd wt dr w) (hr : r < 4) (ho : xO ad w a o) (hmc : 11 ≤ mc) (hms : 110 ≤ ms) (hT : ho_runs 10 (ho_come1 (K, n, hd r, wt r) o).1 T) (h : ∀ mb' w', xF ad w w' → xR ad mb' T.1 T.2.1 (va_up hd r T.2.2.1) (va_up wt r T.2.2.2) dr w' → post (ho_come1 (K, n, hd r, wt r) o).2 w') : wKXRe_welcome post w mc ms (ad (25 + r)) a := by
  refine ⟨_, hR.re hr, 1, 10, mc - 1, ms - 10, by omega, by omega, kx_receive hR hr ho (Nat.le_refl _) (Nat.le_refl _) (fun mb1 w1 F1 R1 => ⟨_, kx_w8 hr 10 _ T (Nat.le_refl _) hT mb1 _ _ _ _ w1 (mc - 1) (ms - 10) ?_ R1 (by omega) (by omega) (fun mb2 w2 F2 R2 => h mb2 w2 (F1.tr F2) ?_)⟩)⟩
  · rw [va_up_s, va_up_s]
  · rw [bx_uu, bx_uu] at R2
    exact R2
