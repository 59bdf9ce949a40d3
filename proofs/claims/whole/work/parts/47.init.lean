/-! the class's constructor -/
theorem nd_ne {as : List Nat} (h : as.Nodup) {i j : Nat} (hi : i < as.length) (hj : j < as.length) (hij : i ≠ j) : as.getD i 0 ≠ as.getD j 0 := fun e => hij (by
  rw [List.getD_eq_getElem?_getD, List.getD_eq_getElem?_getD, List.getElem?_eq_getElem hi, List.getElem?_eq_getElem hj] at e
  exact (List.getElem?_inj hi h).mp (by rw [List.getElem?_eq_getElem hi, List.getElem?_eq_getElem hj]; exact congrArg some e))
theorem getD_add {P : List Nat} {Q : List Nat} {k : Nat} : (P ++ Q).getD (P.length + k) 0 = Q.getD k 0 := by
  rw [List.getD_eq_getElem?_getD, List.getElem?_append_right (Nat.le_add_right _ _), Nat.add_sub_cancel_left, List.getD_eq_getElem?_getD]
section KI
variable {w : fh_T}
theorem ki_Ro {post : fh_T → Prop} {a0 mc ms : Nat} (h0 : w a0 = some (.inr (3, [.null, .int 0]))) (hmc : 1 ≤ mc) (hms : 40 ≤ ms) (h : ∀ q w', w q = none → (∀ a, a ≠ a0 → a ≠ q → w' a = w a) → w' a0 = some (.inr (3, [.ref q, .int 0])) → w' q = some (.inl (0, 40, .inr (.inr (.inr (.inr (fun _ => none)))))) → post w') : wKXRo_init post w mc ms a0 := by
  refine ⟨40, mc - 1, ms - 40, by decide, by decide, by decide, by omega, by omega, fun q hq w2 e2 => ?_⟩
  have nq : a0 ≠ q := fun z => by rw [z, hq] at h0; cases h0
  exact ⟨_, (fn e2 nq).trans h0, Nat.le_of_ble_eq_true rfl, fun w7 e7 => h q w7 hq (fun a h1 h2 => by rw [fn e7 h1, fn e2 h2]) (fe e7) ((fn e7 nq.symm).trans (fe e2))⟩
/-- an empty row -/
def xe (w : fh_T) (row pl : Nat) : Prop := w row = some (.inr (3, [.ref pl, .int 0])) ∧ ∃ f, w pl = some (.inl (0, 40, .inr (.inr (.inr (.inr f)))))
theorem xe.fr {w' : fh_T} {row pl : Nat} (h : xe w row pl) (h1 : w' row = w row) (h2 : w' pl = w pl) : xe w' row pl := by
  obtain ⟨a, f, b⟩ := h
  exact ⟨by rw [h1]; exact a, f, by rw [h2]; exact b⟩
theorem ki_Re {post : fh_T → Prop} {a0 a1 t mc ms : Nat} (h0 : w a0 = some (.inr (4, [.null, .null, .null, .null, .long 0]))) (ht : w t = some fh_mark) (hmc : 5 ≤ mc) (hms : 87 ≤ ms) (h : ∀ q1 p1 q2 p2 al w', (∀ x, x ∈ [q1, p1, q2, p2, al] → w x = none) → [q1, p1, q2, p2, al].Nodup → (∀ a, a ≠ a0 → w a ≠ none → w' a = w a) → w' a0 = some (.inr (4, [.ref a1, .ref q1, .ref q2, .ref al, .long 0])) → xe w' q1 p1 → xe w' q2 p2 → w' al = some (.inr (9, [.int 0, .ref t, .int 0])) → post w') : wKXRe_init post w mc ms a0 a1 := by
  refine ⟨mc - 1, ms - 2, by omega, by omega, fun q1 hq1 w2 e2 => ⟨1, 40, mc - 1 - 1, ms - 2 - 40, by omega, by omega, ki_Ro (fe e2) (Nat.le_refl _) (Nat.le_refl _) (fun p1 w5 hp1 fr5 r5 s5 => ?_)⟩⟩
  have nq1 : a0 ≠ q1 := fun z => by rw [z, hq1] at h0; cases h0
  have np1q : p1 ≠ q1 := fun z => by rw [z, fe e2] at hp1; cases hp1
  have hp1w : w p1 = none := by rw [fn e2 np1q] at hp1; exact hp1
  have np1 : a0 ≠ p1 := fun z => by rw [z, hp1w] at h0; cases h0
  have z5 : w5 a0 = some (.inr (4, [.null, .null, .null, .null, .long 0])) := by rw [fr5 a0 nq1 np1, fn e2 nq1]; exact h0
  refine ⟨_, z5, Nat.le_of_ble_eq_true rfl, fun w11 e11 => ⟨mc - 1 - 1 - 1, ms - 2 - 40 - 2, by omega, by omega, fun q2 hq2 w15 e15 => ⟨1, 40, mc - 1 - 1 - 1 - 1, ms - 2 - 40 - 2 - 40, by omega, by omega, ki_Ro (fe e15) (Nat.le_refl _) (Nat.le_refl _) (fun p2 w18 hp2 fr18 r18 s18 => ?_)⟩⟩⟩
  have n2a : q2 ≠ a0 := fun z => by rw [z, fe e11] at hq2; cases hq2
  have n2q : q2 ≠ q1 := fun z => by rw [z, fn e11 nq1.symm, r5] at hq2; cases hq2
  have n2p : q2 ≠ p1 := fun z => by rw [z, fn e11 np1.symm, s5] at hq2; cases hq2
  have hq2w : w q2 = none := by rw [fn e11 n2a, fr5 q2 n2q n2p, fn e2 n2q] at hq2; exact hq2
  have m2q : p2 ≠ q2 := fun z => by rw [z, fe e15] at hp2; cases hp2
  have hp2' : w11 p2 = none := by rw [fn e15 m2q] at hp2; exact hp2
  have m2a : p2 ≠ a0 := fun z => by rw [z, fe e11] at hp2'; cases hp2'
  have m2q1 : p2 ≠ q1 := fun z => by rw [z, fn e11 nq1.symm, r5] at hp2'; cases hp2'
  have m2p : p2 ≠ p1 := fun z => by rw [z, fn e11 np1.symm, s5] at hp2'; cases hp2'
  have hp2w : w p2 = none := by rw [fn e11 m2a, fr5 p2 m2q1 m2p, fn e2 m2q1] at hp2'; exact hp2'
  have z18 : w18 a0 = some (.inr (4, [.null, .ref q1, .null, .null, .long 0])) := by rw [fr18 a0 n2a.symm m2a.symm, fn e15 n2a.symm]; exact fe e11
  refine ⟨_, z18, Nat.le_of_ble_eq_true rfl, fun w24 e24 => ⟨mc - 1 - 1 - 1 - 1 - 1, ms - 2 - 40 - 2 - 40 - 3, by omega, by omega, fun al hal w28 e28 => ?_⟩⟩
  -- what lies where in w24
  have old24 : ∀ a, a ≠ a0 → a ≠ q1 → a ≠ p1 → a ≠ q2 → a ≠ p2 → w24 a = w a := fun a b0 b1 b2 b3 b4 => by rw [fn e24 b0, fr18 a b3 b4, fn e15 b3, fn e11 b0, fr5 a b1 b2, fn e2 b1]
  have q1_24 : w24 q1 = some (.inr (3, [.ref p1, .int 0])) := by rw [fn e24 nq1.symm, fr18 q1 n2q.symm m2q1.symm, fn e15 n2q.symm, fn e11 nq1.symm]; exact r5
  have p1_24 : w24 p1 = some (.inl (0, 40, .inr (.inr (.inr (.inr (fun _ => none)))))) := by rw [fn e24 np1.symm, fr18 p1 n2p.symm m2p.symm, fn e15 n2p.symm, fn e11 np1.symm]; exact s5
  have q2_24 : w24 q2 = some (.inr (3, [.ref p2, .int 0])) := by rw [fn e24 n2a]; exact r18
  have p2_24 : w24 p2 = some (.inl (0, 40, .inr (.inr (.inr (.inr (fun _ => none)))))) := by rw [fn e24 m2a]; exact s18
  have a0_24 := fe e24
  have la : al ≠ a0 := fun z => by rw [z, a0_24] at hal; cases hal
  have lq1 : al ≠ q1 := fun z => by rw [z, q1_24] at hal; cases hal
  have lp1 : al ≠ p1 := fun z => by rw [z, p1_24] at hal; cases hal
  have lq2 : al ≠ q2 := fun z => by rw [z, q2_24] at hal; cases hal
  have lp2 : al ≠ p2 := fun z => by rw [z, p2_24] at hal; cases hal
  have halw : w al = none := by rw [old24 al la lq1 lp1 lq2 lp2] at hal; exact hal
  have ta : t ≠ a0 := fx_ne ht h0 (fun z => nomatch z)
  have tn : ∀ {x : Nat}, w x = none → t ≠ x := fun {x} hx z => by rw [← z, ht] at hx; cases hx
  refine ⟨_, fe e28, Nat.le_of_ble_eq_true rfl, fun w3 e3 => ⟨t, _, (fn e3 (tn halw)).trans ((fn e28 (tn halw)).trans ((old24 t ta (tn hq1) (tn hp1w) (tn hq2w) (tn hp2w)).trans ht)), _, fe e3, Nat.le_of_ble_eq_true rfl, fun w6 e6 => ⟨_, (fn e6 la.symm).trans ((fn e3 la.symm).trans ((fn e28 la.symm).trans a0_24)), Nat.le_of_ble_eq_true rfl, fun w33 e33 => ⟨_, fe e33, Nat.le_of_ble_eq_true rfl, fun w37 e37 => ?_⟩⟩⟩⟩
  · have old : ∀ a, a ≠ a0 → a ≠ al → w37 a = w24 a := fun a b0 b1 => by rw [fn e37 b0, fn e33 b0, fn e6 b1, fn e3 b1, fn e28 b1]
    refine h q1 p1 q2 p2 al w37 (fun x hx => ?_) ?_ (fun a b0 b1 => ?_) (fe e37) ⟨(old q1 nq1.symm lq1.symm).trans q1_24, _, (old p1 np1.symm lp1.symm).trans p1_24⟩ ⟨(old q2 n2a lq2.symm).trans q2_24, _, (old p2 m2a lp2.symm).trans p2_24⟩ ?_
    · simp only [List.mem_cons, List.not_mem_nil, or_false] at hx
      rcases hx with rfl | rfl | rfl | rfl | rfl <;> assumption
    · simp only [List.nodup_cons, List.mem_cons, List.not_mem_nil, or_false, not_or, not_false_eq_true, List.nodup_nil, and_true]
      exact ⟨⟨np1q.symm, n2q.symm, m2q1.symm, lq1.symm⟩, ⟨n2p.symm, m2p.symm, lp1.symm⟩, ⟨m2q.symm, lq2.symm⟩, lp2.symm⟩
    · have ne : ∀ {x : Nat}, w x = none → a ≠ x := fun {x} hx z => b1 (by rw [z]; exact hx)
      rw [old a b0 (ne halw), old24 a b0 (ne hq1) (ne hp1w) (ne hq2w) (ne hp2w)]
    · rw [fn e37 la, fn e33 la]; exact fe e6
end KI
/-- after r replicas: all addresses in the order in which they came -/
def xP (r : Nat) (as : List Nat) (t : Nat) (w : fh_T) : Prop := as.length = 5 + 6 * r ∧ as.Nodup ∧ (∀ a, a ∈ as → w a ≠ none) ∧ w t = some fh_mark ∧ w (as.getD 0 0) = some (.inr (1, [.ref (as.getD 1 0), .ref (as.getD 4 0), .null, .null])) ∧ w (as.getD 1 0) = some (.inr (2, [.ref (as.getD 2 0)])) ∧ xe w (as.getD 2 0) (as.getD 3 0) ∧ (∃ f, w (as.getD 4 0) = some (.inl (1, 4, .inr (.inr (.inr (.inr f))))) ∧ ∀ s, s < r → f s = some (as.getD (5 + 6 * s) 0)) ∧ ∀ s, s < r → w (as.getD (5 + 6 * s) 0) = some (.inr (4, [.ref (as.getD 1 0), .ref (as.getD (6 + 6 * s) 0), .ref (as.getD (8 + 6 * s) 0), .ref (as.getD (10 + 6 * s) 0), .long 0])) ∧ xe w (as.getD (6 + 6 * s) 0) (as.getD (7 + 6 * s) 0) ∧ xe w (as.getD (8 + 6 * s) 0) (as.getD (9 + 6 * s) 0) ∧ w (as.getD (10 + 6 * s) 0) = some (.inr (9, [.int 0, .ref t, .int 0]))
theorem xP.step {r t qr q1 p1 q2 p2 al : Nat} {as : List Nat} {w w' : fh_T} (h : xP r as t w) (hqr : w qr = none) (hf : ∀ x, x ∈ [q1, p1, q2, p2, al] → w x = none ∧ x ≠ qr) (hn : [q1, p1, q2, p2, al].Nodup) (hfr : ∀ a, w a ≠ none → a ≠ as.getD 4 0 → w' a = w a) (ha : ∀ f, w (as.getD 4 0) = some (.inl (1, 4, .inr (.inr (.inr (.inr f))))) → w' (as.getD 4 0) = some (.inl (1, 4, .inr (.inr (.inr (.inr (va_up f r (some qr)))))))) (h1 : w' qr = some (.inr (4, [.ref (as.getD 1 0), .ref q1, .ref q2, .ref al, .long 0]))) (h2 : xe w' q1 p1) (h3 : xe w' q2 p2) (h4 : w' al = some (.inr (9, [.int 0, .ref t, .int 0]))) : xP (r + 1) (as ++ [qr, q1, p1, q2, p2, al]) t w' := by
  obtain ⟨g1, g2, g3, g4, g5, g6, g7, ⟨f, g8, g9⟩, g10⟩ := h
  have gl : ∀ k, k < 5 + 6 * r → (as ++ [qr, q1, p1, q2, p2, al]).getD k 0 = as.getD k 0 := fun k hk => getD_left (by omega)
  have gr : ∀ k, (as ++ [qr, q1, p1, q2, p2, al]).getD (5 + 6 * r + k) 0 = [qr, q1, p1, q2, p2, al].getD k 0 := fun k => by rw [← g1]; exact getD_add
  have kp : ∀ k, k < 5 + 6 * r → k ≠ 4 → w' (as.getD k 0) = w (as.getD k 0) := fun k hk h4 => hfr _ (g3 _ (getD_mem (by omega))) (nd_ne g2 (by omega) (by omega) h4)
  have hno : ∀ x, x ∈ [qr, q1, p1, q2, p2, al] → w x = none := fun x hx => by
    rcases List.mem_cons.mp hx with q | q
    · rw [q]; exact hqr
    · exact (hf x q).1
  refine ⟨by rw [List.length_append, g1]; rfl, ?_, fun a ha' => ?_, ?_, ?_, ?_, ?_, ⟨_, by rw [gl 4 (by omega)]; exact ha f g8, fun s hs => ?_⟩, fun s hs => ?_⟩
  · rw [List.nodup_append]
    refine ⟨g2, List.nodup_cons.mpr ⟨fun z => (hf qr z).2 rfl, hn⟩, fun a ha' b hb e => ?_⟩
    have := g3 a ha'
    rw [e] at this
    exact this (hno b hb)
  · rcases List.mem_append.mp ha' with q | q
    · by_cases z : a = as.getD 4 0
      · rw [z, ha f g8]; exact fun z => nomatch z
      · rw [hfr a (g3 a q) z]; exact g3 a q
    · simp only [List.mem_cons, List.not_mem_nil, or_false] at q
      obtain ⟨h2a, f2, h2b⟩ := h2
      obtain ⟨h3a, f3, h3b⟩ := h3
      rcases q with rfl | rfl | rfl | rfl | rfl | rfl
      · rw [h1]; exact fun z => nomatch z
      · rw [h2a]; exact fun z => nomatch z
      · rw [h2b]; exact fun z => nomatch z
      · rw [h3a]; exact fun z => nomatch z
      · rw [h3b]; exact fun z => nomatch z
      · rw [h4]; exact fun z => nomatch z
  · rw [hfr t (by rw [g4]; exact fun z => nomatch z) (fx_ne g4 g8 (fun z => by cases z))]; exact g4
  · rw [gl 0 (by omega), gl 1 (by omega), gl 4 (by omega), kp 0 (by omega) (by omega)]; exact g5
  · rw [gl 1 (by omega), gl 2 (by omega), kp 1 (by omega) (by omega)]; exact g6
  · rw [gl 2 (by omega), gl 3 (by omega)]; exact g7.fr (kp 2 (by omega) (by omega)) (kp 3 (by omega) (by omega))
  · by_cases z : s = r
    · subst z
      rw [va_up_s]
      exact congrArg some (gr 0).symm
    · rw [va_up_n z, gl _ (by omega)]
      exact g9 s (by omega)
  · by_cases z : s = r
    · subst z
      have e6 := gr 1
      have e7 := gr 2
      have e8 := gr 3
      have e9 := gr 4
      have e10 := gr 5
      have e5 := gr 0
      rw [show 5 + 6 * s + 1 = 6 + 6 * s by omega] at e6
      rw [show 5 + 6 * s + 2 = 7 + 6 * s by omega] at e7
      rw [show 5 + 6 * s + 3 = 8 + 6 * s by omega] at e8
      rw [show 5 + 6 * s + 4 = 9 + 6 * s by omega] at e9
      rw [show 5 + 6 * s + 5 = 10 + 6 * s by omega] at e10
      rw [show 5 + 6 * s + 0 = 5 + 6 * s by omega] at e5
      rw [e5, e6, e7, e8, e9, e10, gl 1 (by omega)]
      exact ⟨h1, h2, h3, h4⟩
    · obtain ⟨k1, k2, k3, k4⟩ := g10 s (by omega)
      rw [gl 1 (by omega), gl _ (by omega), gl _ (by omega), gl _ (by omega), gl _ (by omega), gl _ (by omega), gl _ (by omega), kp _ (by omega) (by omega), kp (10 + 6 * s) (by omega) (by omega)]
      exact ⟨k1, k2.fr (kp _ (by omega) (by omega)) (kp _ (by omega) (by omega)), k3.fr (kp _ (by omega) (by omega)) (kp _ (by omega) (by omega)), k4⟩
section KI2
variable {w : fh_T}
theorem ki_Dr {post : fh_T → Prop} {a0 mc ms : Nat} (h0 : w a0 = some (.inr (6, [.int 0, .int 0, .int 0, .int 0, .int 0, .null]))) (hmc : 1 ≤ mc) (hms : 4 ≤ ms) (h : ∀ q w', w q = none → (∀ a, a ≠ a0 → a ≠ q → w' a = w a) → w' a0 = some (.inr (6, [.int 0, .int 0, .int 0, .int 0, .int 0, .ref q])) → w' q = some (.inl (2, 4, .inr (.inl (fun _ => 0)))) → post w') : wKXDr_init post w mc ms a0 := by
  refine ⟨4, mc - 1, ms - 4, by decide, by decide, by decide, by omega, by omega, fun q hq w2 e2 => ?_⟩
  have nq : a0 ≠ q := fun z => by rw [z, hq] at h0; cases h0
  exact ⟨_, (fn e2 nq).trans h0, Nat.le_of_ble_eq_true rfl, fun w7 e7 => h q w7 hq (fun a h1 h2 => by rw [fn e7 h1, fn e2 h2]) (fe e7) ((fn e7 nq.symm).trans (fe e2))⟩
/-- the end of the constructor: two drafts -/
theorem ki_dr2 {post : fh_T → Prop} {mc ms t : Nat} {as : List Nat} (hP : xP 4 as t w) (hmc : 4 ≤ mc) (hms : 20 ≤ ms) (h : ∀ d0 l0 d1 l1 w', (as ++ [d0, l0, d1, l1]).Nodup → (∀ a, w a ≠ none → a ≠ as.getD 0 0 → w' a = w a) → w' (as.getD 0 0) = some (.inr (1, [.ref (as.getD 1 0), .ref (as.getD 4 0), .ref d0, .ref d1])) → w' d0 = some (.inr (6, [.int 0, .int 0, .int 0, .int 0, .int 0, .ref l0])) → w' l0 = some (.inl (2, 4, .inr (.inl (fun _ => 0)))) → w' d1 = some (.inr (6, [.int 0, .int 0, .int 0, .int 0, .int 0, .ref l1])) → w' l1 = some (.inl (2, 4, .inr (.inl (fun _ => 0)))) → post w') : ∃ mc26 ms27, mc = mc26 + 1 ∧ ms = ms27 + 6 ∧ ∀ q24, w q24 = none → ∀ w25, w25 = fh_up w q24 (.inr (6, [.int 0, .int 0, .int 0, .int 0, .int 0, .null])) → (∃ a29 b30 mc31 ms32, mc26 = mc31 + a29 ∧ ms27 = ms32 + b30 ∧ (wKXDr_init (fun w_28 => (∃ fs33, w_28 (as.getD 0 0) = some (.inr (1, fs33)) ∧ 2 < fs33.length ∧ ∀ w34, w34 = fh_up w_28 (as.getD 0 0) (.inr (1, fs33.set 2 (.ref q24))) → (∃ mc39 ms40, mc31 = mc39 + 1 ∧ ms32 = ms40 + 6 ∧ ∀ q37, w34 q37 = none → ∀ w38, w38 = fh_up w34 q37 (.inr (6, [.int 0, .int 0, .int 0, .int 0, .int 0, .null])) → (∃ a42 b43 mc44 ms45, mc39 = mc44 + a42 ∧ ms40 = ms45 + b43 ∧ (wKXDr_init (fun w_41 => (∃ fs46, w_41 (as.getD 0 0) = some (.inr (1, fs46)) ∧ 3 < fs46.length ∧ ∀ w47, w47 = fh_up w_41 (as.getD 0 0) (.inr (1, fs46.set 3 (.ref q37))) → (post w47))) w38 a42 b43 q37))))) w25 a29 b30 q24)) := by
  obtain ⟨g1, g2, g3, g4, g5, -⟩ := hP
  refine ⟨mc - 1, ms - 6, by omega, by omega, fun d0 hd0 w25 e25 => ⟨1, 4, mc - 1 - 1, ms - 6 - 4, by omega, by omega, ki_Dr (fe e25) (Nat.le_refl _) (Nat.le_refl _) (fun l0 w28 hl0 fr28 r28 s28 => ?_)⟩⟩
  have nx : ∀ {x : Nat}, w x = none → as.getD 0 0 ≠ x := fun {x} hx z => by rw [← z, g5] at hx; cases hx
  have nl0 : l0 ≠ d0 := fun z => by rw [z, fe e25] at hl0; cases hl0
  have hl0w : w l0 = none := by rw [fn e25 nl0] at hl0; exact hl0
  refine ⟨_, by rw [fr28 _ (nx hd0) (nx hl0w), fn e25 (nx hd0)]; exact g5, Nat.le_of_ble_eq_true rfl, fun w34 e34 => ⟨mc - 1 - 1 - 1, ms - 6 - 4 - 6, by omega, by omega, fun d1 hd1 w38 e38 => ⟨1, 4, mc - 1 - 1 - 1 - 1, ms - 6 - 4 - 6 - 4, by omega, by omega, ki_Dr (fe e38) (Nat.le_refl _) (Nat.le_refl _) (fun l1 w41 hl1 fr41 r41 s41 => ?_)⟩⟩⟩
  have d0_34 : w34 d0 = some (.inr (6, [.int 0, .int 0, .int 0, .int 0, .int 0, .ref l0])) := by rw [fn e34 (nx hd0).symm]; exact r28
  have l0_34 : w34 l0 = some (.inl (2, 4, .inr (.inl (fun _ => 0)))) := by rw [fn e34 (nx hl0w).symm]; exact s28
  have n1x : d1 ≠ as.getD 0 0 := fun z => by rw [z, fe e34] at hd1; cases hd1
  have n1d : d1 ≠ d0 := fun z => by rw [z, d0_34] at hd1; cases hd1
  have n1l : d1 ≠ l0 := fun z => by rw [z, l0_34] at hd1; cases hd1
  have hd1w : w d1 = none := by rw [fn e34 n1x, fr28 _ n1d n1l, fn e25 n1d] at hd1; exact hd1
  have m1d1 : l1 ≠ d1 := fun z => by rw [z, fe e38] at hl1; cases hl1
  have hl1' : w34 l1 = none := by rw [fn e38 m1d1] at hl1; exact hl1
  have m1x : l1 ≠ as.getD 0 0 := fun z => by rw [z, fe e34] at hl1'; cases hl1'
  have m1d : l1 ≠ d0 := fun z => by rw [z, d0_34] at hl1'; cases hl1'
  have m1l : l1 ≠ l0 := fun z => by rw [z, l0_34] at hl1'; cases hl1'
  have hl1w : w l1 = none := by rw [fn e34 m1x, fr28 _ m1d m1l, fn e25 m1d] at hl1'; exact hl1'
  refine ⟨_, by rw [fr41 _ n1x.symm m1x.symm, fn e38 n1x.symm]; exact fe e34, Nat.le_of_ble_eq_true rfl, fun w47 e47 => h d0 l0 d1 l1 w47 ?_ (fun a b1 b2 => ?_) (fe e47) ?_ ?_ ?_ ?_⟩
  · rw [List.nodup_append]
    refine ⟨g2, ?_, fun a ha b hb e => ?_⟩
    · simp only [List.nodup_cons, List.mem_cons, List.not_mem_nil, or_false, not_or, not_false_eq_true, List.nodup_nil, and_true]
      exact ⟨⟨nl0.symm, n1d.symm, m1d.symm⟩, ⟨n1l.symm, m1l.symm⟩, m1d1.symm⟩
    · have := g3 a ha
      rw [e] at this
      simp only [List.mem_cons, List.not_mem_nil, or_false] at hb
      rcases hb with rfl | rfl | rfl | rfl
      · exact this hd0
      · exact this hl0w
      · exact this hd1w
      · exact this hl1w
  · have ne : ∀ {x : Nat}, w x = none → a ≠ x := fun {x} hx z => b1 (by rw [z]; exact hx)
    rw [fn e47 b2, fr41 a (ne hd1w) (ne hl1w), fn e38 (ne hd1w), fn e34 b2, fr28 a (ne hd0) (ne hl0w), fn e25 (ne hd0)]
  · rw [fn e47 (nx hd0).symm, fr41 d0 n1d.symm m1d.symm, fn e38 n1d.symm]; exact d0_34
  · rw [fn e47 (nx hl0w).symm, fr41 l0 n1l.symm m1l.symm, fn e38 n1l.symm]; exact l0_34
  · rw [fn e47 n1x]; exact r41
  · rw [fn e47 m1x]; exact s41
theorem ki_25 {post : fh_T → Prop} {t x0 : Nat} (h : ∀ as d0 l0 d1 l1 w w', as.getD 0 0 = x0 → xP 4 as t w → (as ++ [d0, l0, d1, l1]).Nodup → (∀ a, w a ≠ none → a ≠ as.getD 0 0 → w' a = w a) → w' (as.getD 0 0) = some (.inr (1, [.ref (as.getD 1 0), .ref (as.getD 4 0), .ref d0, .ref d1])) → w' d0 = some (.inr (6, [.int 0, .int 0, .int 0, .int 0, .int 0, .ref l0])) → w' l0 = some (.inl (2, 4, .inr (.inl (fun _ => 0)))) → w' d1 = some (.inr (6, [.int 0, .int 0, .int 0, .int 0, .int 0, .ref l1])) → w' l1 = some (.inl (2, 4, .inr (.inl (fun _ => 0)))) → post w') : ∀ d r as w mc ms, r + d = 4 → as.getD 0 0 = x0 → xP r as t w → 6 * d + 4 ≤ mc → 92 * d + 20 ≤ ms → wKXW_init_25 post (d + 1) w mc ms x0 (nI r) := by
  intro d
  induction d with
  | zero =>
    intro r as w mc ms e ex hP hmc hms
    have e : r = 4 := by omega
    subst e
    subst ex
    rw [wKXW_init_25_s]
    exact ⟨fun _ => ki_dr2 hP (by omega) (by omega) (fun d0 l0 d1 l1 w' k1 k2 k3 k4 k5 k6 k7 => h as d0 l0 d1 l1 w w' rfl hP k1 k2 k3 k4 k5 k6 k7), fun c => absurd (by decide) c⟩
  | succ d ih =>
    intro r as w mc ms e ex hP hmc hms
    have ex' := ex
    subst ex
    obtain ⟨g1, g2, g3, g4, g5, g6, g7, ⟨f, g8, g9⟩, g10⟩ := id hP
    rw [wKXW_init_25_s, l4 (by omega)]
    refine ⟨fun c => by omega, fun _ => ⟨_, ⟨_, g5, rfl⟩, mc - 1, ms - 5, by omega, by omega, fun qr hqr w53 e53 => ?_⟩⟩
    have ne : ∀ {a : Nat}, w a ≠ none → a ≠ qr := fun {a} ha z => ha (by rw [z]; exact hqr)
    have nm : ∀ k, k < 5 + 6 * r → as.getD k 0 ≠ qr := fun k hk => ne (g3 _ (getD_mem (by omega)))
    have t53 : w53 t = some fh_mark := by rw [fn e53 (ne (by rw [g4]; exact fun z => nomatch z))]; exact g4
    refine ⟨_, ⟨_, by rw [fn e53 (nm 0 (by omega))]; exact g5, rfl⟩, 5, 87, mc - 1 - 5, ms - 5 - 87, by omega, by omega, ki_Re (fe e53) t53 (Nat.le_refl _) (Nat.le_refl _) (fun q1 p1 q2 p2 al w58 f58 n58 fr58 a58 x1 x2 x3 => ?_)⟩
    have a4_58 : w58 (as.getD 4 0) = some (.inl (1, 4, .inr (.inr (.inr (.inr f))))) := by
      have : w53 (as.getD 4 0) = w (as.getD 4 0) := fn e53 (nm 4 (by omega))
      rw [fr58 _ (nm 4 (by omega)) (by rw [this, g8]; exact fun z => nomatch z), this]
      exact g8
    have hff : ∀ x, x ∈ [q1, p1, q2, p2, al] → w x = none ∧ x ≠ qr := fun x hx => by
      have := f58 x hx
      have nq : x ≠ qr := fun z => by rw [z, fe e53] at this; cases this
      rw [fn e53 nq] at this
      exact ⟨this, nq⟩
    have n4 : ∀ {x : Nat}, w x = none → x ≠ as.getD 4 0 := fun {x} hx z => by rw [z, g8] at hx; cases hx
    refine ⟨_, _, _, a4_58, a58, vp_in_nI (by omega) (by omega), fun w67 e67 => ?_⟩
    rw [tN (show r < 2 ^ 31 by omega)] at e67
    rw [nI_1]
    have xf : ∀ {row pl : Nat}, row ∈ [q1, p1, q2, p2, al] → pl ∈ [q1, p1, q2, p2, al] → xe w58 row pl → xe w67 row pl := fun hr hp hx => hx.fr (fn e67 (n4 (hff _ hr).1)) (fn e67 (n4 (hff _ hp).1))
    refine ih (r + 1) (as ++ [qr, q1, p1, q2, p2, al]) w67 (mc - 1 - 5) (ms - 5 - 87) (by omega) (getD_left (by omega)) (hP.step hqr hff n58 (fun a b1 b2 => ?_) (fun f' hf' => ?_) ?_ (xf (by simp) (by simp) x1) (xf (by simp) (by simp) x2) ?_) (by omega) (by omega)
    · have : w53 a = w a := fn e53 (ne b1)
      rw [fn e67 b2, fr58 a (ne b1) (by rw [this]; exact b1), this]
    · have ef : f' = f := by
        have := hf'.symm.trans g8
        cases this
        rfl
      rw [ef]
      exact fe e67
    · rw [fn e67 (n4 hqr)]; exact a58
    · rw [fn e67 (n4 (hff al (by simp)).1)]; exact x3
end KI2
