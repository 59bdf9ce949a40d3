/-! the class: a meeting -/
theorem ho_come1_hm (S : ho_V) (o : ho_O) (i : Nat) (h : hb S.2.2.1 i = true) : hb (ho_come1 S o).1.2.2.1 i = true := by
  obtain ⟨K, n, hd, wt⟩ := S
  have h : hb hd i = true := h
  cases q : ho_find K o.1 n with
  | some g =>
    by_cases c1 : hb hd g = true
    · rw [ho_c_held q c1]; exact h
    · by_cases c2 : ho_shape (K g).1
      · by_cases c3 : ho_lh K n hd (K g).1.2.2
        · rw [ho_c_kin q c1 c2 c3]
          show hb (hd ||| ho_bit g) i = true
          rw [hb_or, h, Bool.true_or]
        · rw [ho_c_kwait q c1 c2 c3]; exact h
      · rw [ho_c_kshape q c1 c2]; exact h
  | none =>
    by_cases c2 : ho_shape o
    · by_cases c3 : ho_lh K n hd o.2.2
      · by_cases c4 : n < 40 ∧ ho_right K n (ho_cand K n o)
        · rw [ho_c_in q c2 c3 c4]
          show hb (hd ||| ho_bit n) i = true
          rw [hb_or, h, Bool.true_or]
        · rw [ho_c_not q c2 c3 c4]; exact h
      · rw [ho_c_wait q c2 c3]; exact h
    · rw [ho_c_shape q c2]; exact h
theorem ho_runs_hm : ∀ (k : Nat) {S T : ho_V}, ho_runs k S T → ∀ i, hb S.2.2.1 i = true → hb T.2.2.1 i = true
  | 0, S, T, h => by rw [h.2]; exact fun _ z => z
  | k + 1, S, T, h => by
    rcases h with ⟨-, h⟩ | ⟨i, -, h⟩
    · rw [h]; exact fun _ z => z
    · intro j hj
      exact ho_runs_hm k h j (ho_come1_hm (S.1, S.2.1, S.2.2.1, S.2.2.2.eraseIdx i) _ j hj)
theorem ho_cA_hm {A : ho_A} {r : Nat} {o : ho_O} (hv : ho_vok (ho_view A r)) (hl : o.2.2.length ≤ 4) (i : Nat) (h : hb (A.2.2.1 r) i = true) : hb ((ho_cA A r o).2.2.1 r) i = true := by
  show hb (va_up A.2.2.1 r (ho_T (ho_come1 (ho_view A r) o).1).2.2.1 r) i = true
  rw [va_up_s]
  exact ho_runs_hm 10 (ho_T_runs (ho_come1_ok hv hl)) i (ho_come1_hm (ho_view A r) o i h)
theorem ho_br_hm {r : Nat} (hr : r < 4) : ∀ (L : List Nat) (A : ho_A), ho_aok A → (∀ g, g ∈ L → g < A.2.1) → ∀ i, hb (A.2.2.1 r) i = true → hb ((ho_br r L A).2.2.1 r) i = true
  | [], _, _, _, _, h => h
  | g :: L, A, hA, hL, i, h => by
    have hg := hL g List.mem_cons_self
    have hl : (A.1 g).1.2.2.length ≤ 4 := ((hA r hr).1.2.2 g hg).2.2.2.2.2
    obtain ⟨k1, k2⟩ := ho_cA_gr (hA r hr) hl
    exact ho_br_hm hr L (ho_cA A r (A.1 g).1) (ho_cA_ok hA hr hl) (fun x hx => by have := hL x (List.mem_cons_of_mem _ hx); omega) i (ho_cA_hm (hA r hr) hl i h)
section XMT
variable {ad mb : Nat → Nat} {A : ho_A} {dr : Nat → ho_O} {w w' : fh_T} {r : Nat}
theorem xA.aok (hR : xA ad mb A dr w) : ho_aok A := fun _ hr => xR.vok hR hr
theorem kx_hs4 {post : Int64 → fh_T → Prop} {L : List Nat} (hR : xA ad mb A dr w) (hr : r < 4) (hL : ho_srt False A.1 (fun g => hb (ho_hds A.1 A.2.1 (A.2.2.1 r)) g = true) L) (h : post (ho_hds A.1 A.2.1 (A.2.2.1 r)) w) : ∀ d k x, k + d = L.length → (∀ i, hb x i = true ↔ i ∈ L.take k) → wKXRe_headSet_4 post (d + 1) w (ad (25 + r)) x (nI k) := by
  have h40 : A.2.1 ≤ 40 := (xR.ok hR).1
  obtain ⟨rw0, hlt⟩ := xR.hds hR hr hL
  obtain ⟨r1, r2, f, r3, r4⟩ := rw0
  have hre := xR.re hR hr
  intro d
  induction d with
  | zero =>
    intro k x e hx
    have et : L.take k = L := List.take_of_length_le (by omega)
    rw [et] at hx
    have ex : x = ho_hds A.1 A.2.1 (A.2.2.1 r) := hb_ext fun i _ => by
      have this : hb x i = true ↔ hb (ho_hds A.1 A.2.1 (A.2.2.1 r)) i = true := (hx i).trans (hL.1 i)
      cases q : hb x i <;> cases q2 : hb (ho_hds A.1 A.2.1 (A.2.2.1 r)) i
      · rfl
      · exact absurd (this.mpr q2) (by rw [q]; decide)
      · exact absurd (this.mp q) (by rw [q2]; decide)
      · rfl
    rw [wKXRe_headSet_4_s, ex]
    exact ⟨_, ⟨_, hre, rfl⟩, _, ⟨_, r1, rfl⟩, fun _ => h, fun c => absurd (nI_le (by omega) (by omega)) c⟩
  | succ d ih =>
    intro k x e hx
    have hk : k < L.length := by omega
    have hg := hlt _ (getD_mem hk)
    obtain ⟨oa, m1, -⟩ := xR.m hR hg
    rw [wKXRe_headSet_4_s]
    refine ⟨_, ⟨_, hre, rfl⟩, _, ⟨_, r1, rfl⟩, fun c => absurd c (nI_ge hk (by omega)), fun _ => ⟨_, ⟨_, hre, rfl⟩, _, ⟨_, r1, rfl⟩, _, _, _, r3, vp_in_nI (by omega) (by omega), by rw [tN (by omega)]; exact r4 k hk, _, ⟨_, m1, rfl⟩, ?_⟩⟩
    rw [nI_1]
    refine ih (k + 1) _ (by omega) (fun i => ?_)
    have et : L.take (k + 1) = L.take k ++ [L.getD k 0] := by
      rw [List.take_succ, List.getD_eq_getElem?_getD, List.getElem?_eq_getElem hk]
      rfl
    have : hb (x ||| ho_bit (L.getD k 0)) i = true ↔ hb x i = true ∨ i = L.getD k 0 := hb_orbit (by omega)
    rw [et, List.mem_append, List.mem_singleton, ← hx i]
    exact this
theorem kx_headSet {post : Int64 → fh_T → Prop} (hR : xA ad mb A dr w) (hr : r < 4) (h : post (ho_hds A.1 A.2.1 (A.2.2.1 r)) w) : wKXRe_headSet post w (ad (25 + r)) := by
  obtain ⟨-, L, hL⟩ := xR.ex hR hr
  exact ⟨_, kx_hs4 hR hr hL h _ 0 0 (Nat.zero_add _) (fun i => by rw [hb_0]; exact ⟨fun z => (by cases z), fun z => absurd z List.not_mem_nil⟩)⟩
theorem kx_la5 {post : Int64 → fh_T → Prop} {set : Int64} (hR : xA ad mb A dr w) (h : post (ho_ls A.1 set A.2.1) w) : ∀ d k, k + d = A.2.1 → wKXKn_linksOfAll_5 post (d + 1) w (ad 1) set (ho_ls A.1 set k) (nI k) := by
  obtain ⟨hn, c1, c7, f, c8, hf⟩ := (xR.v hR).cells
  intro d
  induction d with
  | zero =>
    intro k e
    have e : k = A.2.1 := by omega
    rw [wKXKn_linksOfAll_5_s, e]
    exact ⟨_, ⟨_, c1, rfl⟩, _, ⟨_, c7, rfl⟩, fun _ => h, fun c => absurd (nI_le (Nat.le_refl _) (by omega)) c⟩
  | succ d ih =>
    intro k e
    have hk : k < A.2.1 := by omega
    have ih1 := ih (k + 1) (by omega)
    rw [ho_ls] at ih1
    obtain ⟨oa, m1, -⟩ := xR.m hR hk
    rw [wKXKn_linksOfAll_5_s]
    refine ⟨_, ⟨_, c1, rfl⟩, _, ⟨_, c7, rfl⟩, fun c => absurd c (nI_ge hk (by omega)), fun _ => kx_cont (by omega) (bI_br (fun q => ?_) (fun q => ⟨_, ⟨_, c1, rfl⟩, _, ⟨_, c7, rfl⟩, _, _, _, c8, vp_in_nI (by omega) (by omega), by rw [tN (by omega)]; exact hf k hk, _, ⟨_, m1, rfl⟩, ?_⟩))⟩
    · rw [if_neg q] at ih1
      rw [nI_1]
      exact ih1
    · rw [if_pos q] at ih1
      rw [nI_1]
      exact ih1
/-- one side of a meeting: a asks, b tells; l is lacking, g is got -/
def xS (ad : Nat → Nat) (w : fh_T) (q a b : Nat) (l g : Int64) : Prop := w q = some (.inr (8, [.ref (ad 1), .ref (ad (25 + a)), .ref (ad (25 + b)), .long l, .long g]))
theorem kx_As_init {post : fh_T → Prop} {q a b : Nat} (hR : xA ad mb A dr w) (hq : w q = some (.inr (8, [.null, .null, .null, .long 0, .long 0]))) (ha : a < 4) (hb' : b < 4) (h : ∀ w', (∀ x, x ≠ q → w' x = w x) → xA ad mb A dr w' → xS ad w' q a b (ho_hds A.1 A.2.1 (A.2.2.1 b) &&& (A.2.2.1 a ^^^ (-1))) 0 → post w') : wKXAs_init post w q (ad 1) (ad (25 + a)) (ad (25 + b)) := by
  refine ⟨_, hq, Nat.le_of_ble_eq_true rfl, fun w2 e2 => ⟨_, fe e2, Nat.le_of_ble_eq_true rfl, fun w6 e6 => ⟨_, fe e6, Nat.le_of_ble_eq_true rfl, fun w10 e10 => ?_⟩⟩⟩
  have R10 : xA ad mb A dr w10 := xR.as (xR.as (xR.as hR hq e2) (fe e2) e6) (fe e6) e10
  refine ⟨_, xR.re R10 hb', kx_headSet R10 hb' ⟨_, ⟨_, xR.re R10 ha, rfl⟩, _, fe e10, Nat.le_of_ble_eq_true rfl, fun w19 e19 => ?_⟩⟩
  exact h w19 (fun x hx => by rw [fn e19 hx, fn e10 hx, fn e6 hx, fn e2 hx]) (xR.as R10 (fe e10) e19) (fe e19)
theorem kx_ask {post : fh_T → Prop} {q a b : Nat} {l g : Int64} (hR : xA ad mb A dr w) (hS : xS ad w q a b l g) (ha : a < 4) (h : ∀ w', (∀ x, x ≠ q → w' x = w x) → xA ad mb A dr w' → xS ad w' q a b (ho_nx A.1 A.2.1 (A.2.2.1 a) l g) (g ||| l) → post w') : wKXAs_ask post w q := by
  refine ⟨_, ⟨_, hS, rfl⟩, _, ⟨_, hS, rfl⟩, _, hS, Nat.le_of_ble_eq_true rfl, fun w6 e6 => ?_⟩
  have R6 : xA ad mb A dr w6 := xR.as hR hS e6
  obtain ⟨hn, c1, -⟩ := (xR.v R6).cells
  refine ⟨_, ⟨_, fe e6, rfl⟩, _, ⟨_, fe e6, rfl⟩, _, c1, _, kx_la5 R6 ⟨_, ⟨_, fe e6, rfl⟩, _, ⟨_, xR.re R6 ha, rfl⟩, _, ⟨_, fe e6, rfl⟩, _, fe e6, Nat.le_of_ble_eq_true rfl, fun w23 e23 => ?_⟩ _ 0 (Nat.zero_add _)⟩
  exact h w23 (fun x hx => by rw [fn e23 hx, fn e6 hx]) (xR.as R6 (fe e6) e23) (fe e23)
theorem kx_bh2 {post : fh_T → Prop} {q a b : Nat} {l g : Int64} {K0 : Nat → ho_M} {n0 : Nat} {L : List Nat} {H : Int64} (ha : a < 4) (hb' : b < 4) (hab : a ≠ b) (hL : ho_srt True K0 (fun x => hb H x = true) L) (hlt : ∀ x, x ∈ L → x < n0) (hl40 : L.length ≤ 40) : ∀ (Q P : List Nat) (mb : Nat → Nat) (A : ho_A) (w : fh_T) (mc ms : Nat), P ++ Q = L → n0 ≤ A.2.1 → (∀ x, x < n0 → A.1 x = K0 x) → A.2.2.1 b = H → xA ad mb A dr w → xS ad w q a b l g → 11 * Q.length ≤ mc → 110 * Q.length ≤ ms → (∀ mb' w', xF ad w w' → xA ad mb' (ho_br a (Q.filter (hb g)) A) dr w' → post w') → wKXAs_bringHome_2 post (Q.length + 1) w mc ms q (nI P.length) := by
  intro Q
  induction Q with
  | nil =>
    intro P mb A w mc ms e hn hK hH hR hS hmc hms h
    rw [List.append_nil] at e
    subst e
    have hLA : ho_srt True A.1 (fun x => hb (A.2.2.1 b) x = true) P := by
      rw [hH]
      exact ⟨hL.1, srt_ext hL.2 (fun x hx => hK x (hlt x hx))⟩
    obtain ⟨rw0, -⟩ := xR.ord hR hb' hLA
    rw [List.length_nil, wKXAs_bringHome_2_s]
    exact ⟨_, ⟨_, hS, rfl⟩, _, ⟨_, xR.re hR hb', rfl⟩, _, ⟨_, rw0.1, rfl⟩, fun _ => h mb w xF.rf hR, fun c => absurd (nI_le (Nat.le_refl _) (by omega)) c⟩
  | cons x Q ih =>
    intro P mb A w mc ms e hn hK hH hR hS hmc hms h
    have hlen : L.length = P.length + (Q.length + 1) := by rw [← e, List.length_append, List.length_cons]
    have hxL : x ∈ L := by rw [← e]; exact List.mem_append_right _ List.mem_cons_self
    have hxn := hlt x hxL
    have hget : L.getD P.length 0 = x := by
      rw [← e, List.getD_eq_getElem?_getD, List.getElem?_append_right (Nat.le_refl _), Nat.sub_self]
      rfl
    have hLA : ho_srt True A.1 (fun x => hb (A.2.2.1 b) x = true) L := by
      rw [hH]
      exact ⟨hL.1, srt_ext hL.2 (fun x hx => hK x (hlt x hx))⟩
    obtain ⟨⟨r1, r2, f, r3, r4⟩, -⟩ := xR.ord hR hb' hLA
    have h40 : A.2.1 ≤ 40 := (xR.ok hR).1
    obtain ⟨oa, m1, mO⟩ := xR.m hR (show x < A.2.1 by omega)
    have fk : f (Int32.toNatClampNeg (nI P.length)) = some (mb x) := by rw [tN (by omega), r4 P.length (by omega), hget]
    have e2 : (P ++ [x]) ++ Q = L := by rw [List.append_assoc]; exact e
    have el : (P ++ [x]).length = P.length + 1 := by rw [List.length_append]; rfl
    rw [List.length_cons] at hmc hms
    rw [List.length_cons, wKXAs_bringHome_2_s]
    refine ⟨_, ⟨_, hS, rfl⟩, _, ⟨_, xR.re hR hb', rfl⟩, _, ⟨_, r1, rfl⟩, fun c => absurd c (nI_ge (by omega) (by omega)), fun _ => ⟨_, ⟨_, hS, rfl⟩, _, ⟨_, xR.re hR hb', rfl⟩, _, ⟨_, r1, rfl⟩, _, _, _, r3, vp_in_nI (by omega) (by omega), fk, _, ⟨_, hS, rfl⟩, _, ⟨_, m1, rfl⟩, kx_cont (by omega) (bI_br (fun q2 => ?_) (fun q2 => ⟨_, ⟨_, hS, rfl⟩, _, ⟨_, m1, rfl⟩, _, xR.re hR ha, 11, 110, mc - 11, ms - 110, by omega, by omega, kx_comeA hR ha mO (Nat.le_refl _) (Nat.le_refl _) (fun mb3 w3 F3 R3 => ?_)⟩))⟩⟩
    · have := ih (P ++ [x]) mb A w mc ms e2 hn hK hH hR hS (by omega) (by omega) (fun mb' w' F R => h mb' w' F (by rw [List.filter_cons, if_neg q2]; exact R))
      rw [el] at this
      rw [nI_1]
      exact this
    · obtain ⟨la, lf, -, -, -, -, -, ol⟩ := id mO
      obtain ⟨k1, k2⟩ := ho_cA_gr (o := (A.1 x).1) (xR.vok hR ha) ol
      have S3 : xS ad w3 q a b l g := F3 _ _ hS (Or.inr (Or.inr rfl))
      have := ih (P ++ [x]) mb3 (ho_cA A a (A.1 x).1) w3 (mc - 11) (ms - 110) e2 (by omega) (fun y hy => by rw [k2 y (by omega), hK y hy]) ((va_up_n (f := A.2.2.1) (fun z => hab z.symm)).trans hH) R3 S3 (by omega) (by omega) (fun mb' w' F R => h mb' w' (F3.tr F) (by rw [List.filter_cons, if_pos q2]; exact R))
      rw [el] at this
      rw [nI_1]
      exact this
theorem xA.len (hR : xA ad mb A dr w) (hr : r < 4) {L : List Nat} (hL : ho_srt True A.1 (fun g => hb (A.2.2.1 r) g = true) L) : L.length ≤ 40 := (xR.ord hR hr hL).1.2.1
/-- what was got comes home, on both sides -/
theorem kx_m103 {post : Int32 → fh_T → Prop} {mc ms q1 q2 a b : Nat} {l1 l2 G1 G2 : Int64} {R : Nat} (hR : xA ad mb A dr w) (ha : a < 4) (hb' : b < 4) (hab : a ≠ b) (hS1 : xS ad w q1 a b l1 G1) (hS2 : xS ad w q2 b a l2 G2) (hmc : 880 ≤ mc) (hms : 8800 ≤ ms) (hG1 : ∀ i, hb G1 i = true → hb (A.2.2.1 b) i = true) (hG2 : ∀ i, hb G2 i = true → hb (A.2.2.1 a) i = true) (h : ∀ L1 L2, ho_srt True A.1 (fun g => g < A.2.1 ∧ hb G1 g = true) L1 → ho_srt True A.1 (fun g => g < A.2.1 ∧ hb G2 g = true) L2 → ∀ mb' w', xA ad mb' (ho_br b L2 (ho_br a L1 A)) dr w' → post (nI R) w') : wKXW_meet_103 post w mc ms q1 q2 (nI R) := by
  obtain ⟨⟨Lb, hLb⟩, -⟩ := xR.ex hR hb'
  have hb40 := xA.len hR hb' hLb
  have hcb : ho_cl A.1 A.2.1 (A.2.2.1 b) := xR.cl hR hb'
  have hca : ho_cl A.1 A.2.1 (A.2.2.1 a) := xR.cl hR ha
  have s1 : ho_srt True A.1 (fun g => g < A.2.1 ∧ hb G1 g = true) (Lb.filter (hb G1)) := ⟨fun x => by
    rw [List.mem_filter, hLb.1 x]
    exact ⟨fun z => ⟨(hcb x z.1).1, z.2⟩, fun z => ⟨hG1 x z.2, z.2⟩⟩, hLb.2.filter _⟩
  refine ⟨_, hS1, 440, 4400, mc - 440, ms - 4400, by omega, by omega, _, kx_bh2 ha hb' hab hLb (fun x hx => (hcb x ((hLb.1 x).mp hx)).1) hb40 Lb [] mb A w 440 4400 rfl (Nat.le_refl _) (fun _ _ => rfl) rfl hR hS1 (by omega) (by omega) (fun mb1 w1 F1 R1 => ?_)⟩
  have S2 : xS ad w1 q2 b a l2 G2 := F1 _ _ hS2 (Or.inr (Or.inr rfl))
  obtain ⟨⟨La, hLa⟩, -⟩ := xR.ex R1 ha
  have ha40 := xA.len R1 ha hLa
  have hca1 := xR.cl R1 ha
  have hlt1 : ∀ g, g ∈ Lb.filter (hb G1) → g < A.2.1 := fun g hg => ((s1.1 g).mp hg).1
  obtain ⟨-, j1, j2⟩ := ho_br_gr ha (Lb.filter (hb G1)) A hR.aok hlt1
  have hm := ho_br_hm ha (Lb.filter (hb G1)) A hR.aok hlt1
  have s2 : ho_srt True A.1 (fun g => g < A.2.1 ∧ hb G2 g = true) (La.filter (hb G2)) := by
    have hmem : ∀ x, x ∈ La.filter (hb G2) ↔ x < A.2.1 ∧ hb G2 x = true := fun x => by
      rw [List.mem_filter, hLa.1 x]
      exact ⟨fun z => ⟨(hca x (hG2 x z.2)).1, z.2⟩, fun z => ⟨hm x (hG2 x z.2), z.2⟩⟩
    exact ⟨hmem, srt_ext (hLa.2.filter _) (fun g hg => (j2 g ((hmem g).mp hg).1).symm)⟩
  refine ⟨_, S2, 440, 4400, mc - 440 - 440, ms - 4400 - 4400, by omega, by omega, _, kx_bh2 hb' ha (fun z => hab z.symm) hLa (fun x hx => (hca1 x ((hLa.1 x).mp hx)).1) ha40 La [] mb1 _ w1 440 4400 rfl (Nat.le_refl _) (fun _ _ => rfl) rfl R1 S2 (by omega) (by omega) (fun mb2 w2 _ R2 => h _ _ s1 s2 mb2 w2 R2)⟩
theorem kx_m64 {post : Int32 → fh_T → Prop} {mc ms q1 q2 a b : Nat} (ha : a < 4) (hb' : b < 4) (hab : a ≠ b) (hqq : q1 ≠ q2) (hmc : 880 ≤ mc) (hms : 8800 ≤ ms) {X : Int64 × Int64 × Nat} (hG1 : ∀ i, hb X.1 i = true → hb (A.2.2.1 b) i = true) (hG2 : ∀ i, hb X.2.1 i = true → hb (A.2.2.1 a) i = true) (h : ∀ L1 L2, ho_srt True A.1 (fun g => g < A.2.1 ∧ hb X.1 g = true) L1 → ho_srt True A.1 (fun g => g < A.2.1 ∧ hb X.2.1 g = true) L2 → ∀ mb' w', xA ad mb' (ho_br b L2 (ho_br a L1 A)) dr w' → post (nI X.2.2) w') : ∀ f r w l1 g1 l2 g2, r + f = 40 → xA ad mb A dr w → xS ad w q1 a b l1 g1 → xS ad w q2 b a l2 g2 → X = ho_rd A.1 A.2.1 (A.2.2.1 a) (A.2.2.1 b) f l1 g1 l2 g2 r → wKXW_meet_64 post (f + 1) w mc ms q1 q2 (nI r) := by
  have e40 : ∀ k, k ≤ 40 → ((40 : Int32) ≤ nI k ↔ 40 ≤ k) := fun k hk => by rw [show (40 : Int32) = nI 40 from rfl]; exact nI_leI (by omega) (by omega)
  intro f
  induction f with
  | zero =>
    intro r w l1 g1 l2 g2 e hR hS1 hS2 eX
    rw [ho_rd] at eX
    subst eX
    rw [wKXW_meet_64_s, e40 r (by omega)]
    exact ⟨fun _ => kx_m103 hR ha hb' hab hS1 hS2 hmc hms hG1 hG2 h, fun c => absurd (by omega) c⟩
  | succ f ih =>
    intro r w l1 g1 l2 g2 e hR hS1 hS2 eX
    rw [ho_rd] at eX
    have go : ¬ (l1 = 0 ∧ l2 = 0) → wKXW_meet_87 post (wKXW_meet_64 post (f + 1)) w mc ms q1 q2 (nI r) := fun q => by
      rw [cif_f q] at eX
      refine ⟨_, hS1, kx_ask hR hS1 ha (fun w1 fr1 R1 S1 => ?_)⟩
      have S2 : xS ad w1 q2 b a l2 g2 := (fr1 q2 hqq.symm).trans hS2
      refine ⟨_, S2, kx_ask R1 S2 hb' (fun w2 fr2 R2 S2' => ?_)⟩
      have S1' : xS ad w2 q1 a b _ _ := (fr2 q1 hqq).trans S1
      rw [nI_1]
      exact ih (r + 1) w2 _ _ _ _ (by omega) R2 S1' S2' eX
    rw [wKXW_meet_64_s, e40 r (by omega)]
    refine ⟨fun c => by omega, fun _ => ⟨_, hS1, _, ⟨_, hS1, rfl⟩, ?_⟩⟩
    rw [lg_cmp_eq]
    refine ⟨fun c => ⟨fun z => absurd rfl z, fun _ => ⟨_, hS2, _, ⟨_, hS2, rfl⟩, ?_⟩⟩, fun c => ⟨fun _ => go (fun z => c z.1), fun z => absurd z (by decide)⟩⟩
    rw [lg_cmp_eq]
    refine ⟨fun c2 => ⟨fun _ => ?_, fun z => absurd rfl z⟩, fun c2 => ⟨fun z => absurd z (by decide), fun _ => go (fun z => c2 z.2)⟩⟩
    rw [cif_t ⟨c, c2⟩] at eX
    subst eX
    exact kx_m103 hR ha hb' hab hS1 hS2 hmc hms hG1 hG2 h
theorem kx_meet {post : Int32 → fh_T → Prop} {mc ms a b : Nat} (hR : xA ad mb A dr w) (ha : a < 4) (hb' : b < 4) (hab : a ≠ b) (hmc : 882 ≤ mc) (hms : 8810 ≤ ms) (h : ∀ L1 L2, ho_srt True A.1 (fun g => g < A.2.1 ∧ hb (ho_mt A a b).1 g = true) L1 → ho_srt True A.1 (fun g => g < A.2.1 ∧ hb (ho_mt A a b).2.1 g = true) L2 → ∀ mb' w', xA ad mb' (ho_br b L2 (ho_br a L1 A)) dr w' → post (nI (ho_mt A a b).2.2) w') : wKXW_meet post w mc ms (ad 0) (nI a) (nI b) := by
  obtain ⟨i1, i2⟩ := ho_mt_in (a := a) (b := b) (xR.ok hR) (xR.cl hR ha) (xR.cl hR hb')
  refine ⟨_, xR.web hR, kx_rep hR ha ⟨fun z => (by cases z), fun y z => ?_⟩⟩
  cases z
  refine ⟨_, xR.web hR, kx_rep hR hb' ⟨fun z => (by cases z), fun y z => ?_⟩⟩
  cases z
  refine ⟨fun _ => ⟨mc - 1, ms - 5, by omega, by omega, fun q1 hq1 w1 e1 => ?_⟩, fun c => absurd ((nI_eq (by omega) (by omega)).mp c) hab⟩
  have R1 : xA ad mb A dr w1 := xR.ext hR (xE.up hq1 e1)
  refine ⟨_, ⟨_, xR.web R1, rfl⟩, kx_As_init R1 (fe e1) ha hb' (fun w2 fr2 R2 S2 => ⟨mc - 1 - 1, ms - 5 - 5, by omega, by omega, fun q2 hq2 w3 e3 => ?_⟩)⟩
  have hqq : q1 ≠ q2 := fun z => by
    have S2' : w2 q1 = _ := S2
    rw [z, hq2] at S2'
    cases S2'
  have R3 : xA ad mb A dr w3 := xR.ext R2 (xE.up hq2 e3)
  refine ⟨_, ⟨_, xR.web R3, rfl⟩, kx_As_init R3 (fe e3) hb' ha (fun w4 fr4 R4 S4 => ⟨_, kx_m64 (X := ho_mt A a b) ha hb' hab hqq (by omega) (by omega) i1 i2 h 40 0 w4 _ _ _ _ rfl R4 ?_ S4 rfl⟩)⟩
  exact (fr4 q1 hqq).trans ((fn e3 hqq).trans S2)
end XMT
