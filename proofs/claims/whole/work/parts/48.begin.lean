/-! the reference's constructor, the beginning of the class's, and the state from which the law's loop begins -/
def mI (w2 : fh_T) (h0 : Nat) (fs : List Value) (ps : List (Nat × fh_E)) (w : fh_T) : Prop := w2 h0 = none ∧ w h0 = some (.inr (0, fs)) ∧ (∀ p, p ∈ ps → w p.1 = some p.2 ∧ w2 p.1 = none) ∧ (h0 :: ps.map Prod.fst).Nodup ∧ ∀ a, a ≠ h0 → (∀ p, p ∈ ps → a ≠ p.1) → w a = w2 a
theorem mI.at {w2 w w' : fh_T} {h0 q : Nat} {fs : List Value} {ps : List (Nat × fh_E)} {e : fh_E} (h : mI w2 h0 fs ps w) (hq : w q = none) (e1 : w' = fh_up w q e) : w' h0 = some (.inr (0, fs)) := (fn e1 (fun z => by rw [← z, h.2.1] at hq; cases hq)).trans h.2.1
theorem mI.step {w2 w w' w'' : fh_T} {h0 q : Nat} {fs fs' : List Value} {ps : List (Nat × fh_E)} {e : fh_E} (h : mI w2 h0 fs ps w) (hq : w q = none) (e1 : w' = fh_up w q e) (e2 : w'' = fh_up w' h0 (.inr (0, fs'))) : mI w2 h0 fs' (ps ++ [(q, e)]) w'' := by
  obtain ⟨g0, g1, g2, g3, g4⟩ := h
  have n0 : q ≠ h0 := fun z => by rw [z, g1] at hq; cases hq
  have np : ∀ p, p ∈ ps → p.1 ≠ q := fun p hp z => by
    have := (g2 p hp).1
    rw [z, hq] at this
    cases this
  have nh : ∀ p, p ∈ ps → p.1 ≠ h0 := fun p hp z => (List.nodup_cons.mp g3).1 (List.mem_map.mpr ⟨p, hp, z⟩)
  have hq2 : w2 q = none := by rw [← g4 q n0 (fun p hp z => np p hp z.symm)]; exact hq
  refine ⟨g0, fe e2, fun p hp => ?_, ?_, fun a h1 h2 => ?_⟩
  · rcases List.mem_append.mp hp with h | h
    · exact ⟨by rw [fn e2 (nh p h), fn e1 (np p h)]; exact (g2 p h).1, (g2 p h).2⟩
    · rw [List.mem_singleton.mp h]
      exact ⟨(fn e2 n0).trans (fe e1), hq2⟩
  · have e3 : h0 :: (ps ++ [(q, e)]).map Prod.fst = (h0 :: ps.map Prod.fst) ++ [q] := by simp
    rw [e3, List.nodup_append]
    refine ⟨g3, List.nodup_cons.mpr ⟨List.not_mem_nil, List.nodup_nil⟩, fun a ha b hb z => ?_⟩
    rw [List.mem_singleton.mp hb] at z
    rcases List.mem_cons.mp ha with h | h
    · exact n0 (z.symm.trans h)
    · obtain ⟨p, hp, ep⟩ := List.mem_map.mp h
      exact np p hp (ep.trans z)
  · have n1 : a ≠ q := h2 (q, e) (List.mem_append.mpr (Or.inr (List.mem_singleton.mpr rfl)))
    rw [fn e2 h1, fn e1 n1]
    exact g4 a h1 (fun p hp => h2 p (List.mem_append.mpr (Or.inl hp)))
theorem mI.split {w2 w : fh_T} {h0 : Nat} {fs : List Value} {ps : List (Nat × fh_E)} (h : mI w2 h0 fs ps w) (hl : (ps.map Prod.fst).length = 19) (he : mw1 h0 (fun k => (ps.map Prod.fst).getD k 0) = (h0, .inr (0, fs)) :: ps) : ∃ ad w5, lSplit w h0 ad w5 ∧ xE w2 w5 := by
  obtain ⟨g0, g1, g2, g3, g4⟩ := h
  have hm : ∀ q, mA h0 (fun k => (ps.map Prod.fst).getD k 0) q → w2 q = none := fun q hq => by
    rcases hq with rfl | ⟨k, hk, rfl⟩
    · exact g0
    · obtain ⟨p, hp, ep⟩ := List.mem_map.mp (getD_mem (L := ps.map Prod.fst) (k := k) (by omega))
      show w2 ((ps.map Prod.fst).getD k 0) = none
      rw [← ep]
      exact (g2 p hp).2
  refine ⟨fun k => (ps.map Prod.fst).getD k 0, fun q => @ite _ (mA h0 (fun k => (ps.map Prod.fst).getD k 0) q) (Classical.propDecidable _) none (w q), ⟨fun k q hk => ?_, fun i j p q hi hj hpq => ?_, fun q hq => if_pos hq, fun q hq => if_neg hq⟩, fun a ha => ?_⟩
  · rw [he] at hk
    rcases List.mem_cons.mp (List.mem_of_getElem? hk) with h | h
    · rw [h]; exact g1
    · exact (g2 q h).1
  · rw [he] at hi hj
    have g5 : (((h0, Sum.inr (0, fs)) :: ps : List (Nat × fh_E)).map Prod.fst).Nodup := g3
    have hi1 : (((h0, Sum.inr (0, fs)) :: ps : List (Nat × fh_E)).map Prod.fst)[i]? = some p.1 := by rw [List.getElem?_map, hi]; rfl
    have hj1 : (((h0, Sum.inr (0, fs)) :: ps : List (Nat × fh_E)).map Prod.fst)[j]? = some q.1 := by rw [List.getElem?_map, hj]; rfl
    obtain ⟨hlt, -⟩ := List.getElem?_eq_some_iff.mp hi1
    exact (List.getElem?_inj hlt g5).mp (by rw [hi1, hj1, hpq])
  · have hn : ¬ mA h0 (fun k => (ps.map Prod.fst).getD k 0) a := fun z => ha (hm a z)
    exact (if_neg hn).trans (g4 a (fun z => hn (Or.inl z)) (fun p hp z => ha (by rw [z]; exact (g2 p hp).2)))
set_option maxRecDepth 20000 in
set_option maxHeartbeats 4000000 in
theorem mi_walk {post : fh_T → Prop} {w2 w3 : fh_T} {h0 mc ms : Nat} (h2 : w2 h0 = none) (e3 : w3 = fh_up w2 h0 (.inr (0, mw0))) (hmc : 19 ≤ mc) (hms : 786 ≤ ms) (h : ∀ ad w4 w5, lSplit w4 h0 ad w5 → xE w2 w5 → post w4) : wKXM_init post w3 mc ms h0 := by
  have i0 : mI w2 h0 mw0 [] w3 := ⟨h2, fe e3, fun p hp => absurd hp List.not_mem_nil, List.nodup_cons.mpr ⟨List.not_mem_nil, List.nodup_nil⟩, fun a h1 _ => fn e3 h1⟩
  refine ⟨40, mc - 1, ms - 40, by decide, by decide, by decide, by omega, by omega, fun q0 hq0 x0 ex0 => ⟨_, i0.at hq0 ex0, Nat.le_of_ble_eq_true rfl, fun y0 ey0 => ?_⟩⟩
  have i1 : mI w2 h0 [.int 0, .ref q0, .null, .null, .null, .null, .null, .null, .null, .null, .null, .null, .null, .null, .null, .null, .null, .null, .null, .long 0, .int 0, .null] [(q0, .inl (2, 40, .inr (.inl (fun _ => 0))))] y0 := i0.step hq0 ex0 ey0
  refine ⟨40, mc - 1 - 1, ms - 40 - 40, by decide, by decide, by decide, by omega, by omega, fun q1 hq1 x1 ex1 => ⟨_, i1.at hq1 ex1, Nat.le_of_ble_eq_true rfl, fun y1 ey1 => ?_⟩⟩
  have i2 : mI w2 h0 [.int 0, .ref q0, .ref q1, .null, .null, .null, .null, .null, .null, .null, .null, .null, .null, .null, .null, .null, .null, .null, .null, .long 0, .int 0, .null] [(q0, .inl (2, 40, .inr (.inl (fun _ => 0)))), (q1, .inl (6, 40, .inl (fun _ => 0)))] y1 := i1.step hq1 ex1 ey1
  refine ⟨40, mc - 1 - 1 - 1, ms - 40 - 40 - 40, by decide, by decide, by decide, by omega, by omega, fun q2 hq2 x2 ex2 => ⟨_, i2.at hq2 ex2, Nat.le_of_ble_eq_true rfl, fun y2 ey2 => ?_⟩⟩
  have i3 : mI w2 h0 [.int 0, .ref q0, .ref q1, .ref q2, .null, .null, .null, .null, .null, .null, .null, .null, .null, .null, .null, .null, .null, .null, .null, .long 0, .int 0, .null] [(q0, .inl (2, 40, .inr (.inl (fun _ => 0)))), (q1, .inl (6, 40, .inl (fun _ => 0))), (q2, .inl (6, 40, .inl (fun _ => 0)))] y2 := i2.step hq2 ex2 ey2
  refine ⟨40, mc - 1 - 1 - 1 - 1, ms - 40 - 40 - 40 - 40, by decide, by decide, by decide, by omega, by omega, fun q3 hq3 x3 ex3 => ⟨_, i3.at hq3 ex3, Nat.le_of_ble_eq_true rfl, fun y3 ey3 => ?_⟩⟩
  have i4 : mI w2 h0 [.int 0, .ref q0, .ref q1, .ref q2, .ref q3, .null, .null, .null, .null, .null, .null, .null, .null, .null, .null, .null, .null, .null, .null, .long 0, .int 0, .null] [(q0, .inl (2, 40, .inr (.inl (fun _ => 0)))), (q1, .inl (6, 40, .inl (fun _ => 0))), (q2, .inl (6, 40, .inl (fun _ => 0))), (q3, .inl (6, 40, .inl (fun _ => 0)))] y3 := i3.step hq3 ex3 ey3
  refine ⟨40, mc - 1 - 1 - 1 - 1 - 1, ms - 40 - 40 - 40 - 40 - 40, by decide, by decide, by decide, by omega, by omega, fun q4 hq4 x4 ex4 => ⟨_, i4.at hq4 ex4, Nat.le_of_ble_eq_true rfl, fun y4 ey4 => ?_⟩⟩
  have i5 : mI w2 h0 [.int 0, .ref q0, .ref q1, .ref q2, .ref q3, .ref q4, .null, .null, .null, .null, .null, .null, .null, .null, .null, .null, .null, .null, .null, .long 0, .int 0, .null] [(q0, .inl (2, 40, .inr (.inl (fun _ => 0)))), (q1, .inl (6, 40, .inl (fun _ => 0))), (q2, .inl (6, 40, .inl (fun _ => 0))), (q3, .inl (6, 40, .inl (fun _ => 0))), (q4, .inl (6, 40, .inl (fun _ => 0)))] y4 := i4.step hq4 ex4 ey4
  refine ⟨40, mc - 1 - 1 - 1 - 1 - 1 - 1, ms - 40 - 40 - 40 - 40 - 40 - 40, by decide, by decide, by decide, by omega, by omega, fun q5 hq5 x5 ex5 => ⟨_, i5.at hq5 ex5, Nat.le_of_ble_eq_true rfl, fun y5 ey5 => ?_⟩⟩
  have i6 : mI w2 h0 [.int 0, .ref q0, .ref q1, .ref q2, .ref q3, .ref q4, .ref q5, .null, .null, .null, .null, .null, .null, .null, .null, .null, .null, .null, .null, .long 0, .int 0, .null] [(q0, .inl (2, 40, .inr (.inl (fun _ => 0)))), (q1, .inl (6, 40, .inl (fun _ => 0))), (q2, .inl (6, 40, .inl (fun _ => 0))), (q3, .inl (6, 40, .inl (fun _ => 0))), (q4, .inl (6, 40, .inl (fun _ => 0))), (q5, .inl (6, 40, .inl (fun _ => 0)))] y5 := i5.step hq5 ex5 ey5
  refine ⟨160, mc - 1 - 1 - 1 - 1 - 1 - 1 - 1, ms - 40 - 40 - 40 - 40 - 40 - 40 - 160, by decide, by decide, by decide, by omega, by omega, fun q6 hq6 x6 ex6 => ⟨_, i6.at hq6 ex6, Nat.le_of_ble_eq_true rfl, fun y6 ey6 => ?_⟩⟩
  have i7 : mI w2 h0 [.int 0, .ref q0, .ref q1, .ref q2, .ref q3, .ref q4, .ref q5, .ref q6, .null, .null, .null, .null, .null, .null, .null, .null, .null, .null, .null, .long 0, .int 0, .null] [(q0, .inl (2, 40, .inr (.inl (fun _ => 0)))), (q1, .inl (6, 40, .inl (fun _ => 0))), (q2, .inl (6, 40, .inl (fun _ => 0))), (q3, .inl (6, 40, .inl (fun _ => 0))), (q4, .inl (6, 40, .inl (fun _ => 0))), (q5, .inl (6, 40, .inl (fun _ => 0))), (q6, .inl (2, 160, .inr (.inl (fun _ => 0))))] y6 := i6.step hq6 ex6 ey6
  refine ⟨40, mc - 1 - 1 - 1 - 1 - 1 - 1 - 1 - 1, ms - 40 - 40 - 40 - 40 - 40 - 40 - 160 - 40, by decide, by decide, by decide, by omega, by omega, fun q7 hq7 x7 ex7 => ⟨_, i7.at hq7 ex7, Nat.le_of_ble_eq_true rfl, fun y7 ey7 => ?_⟩⟩
  have i8 : mI w2 h0 [.int 0, .ref q0, .ref q1, .ref q2, .ref q3, .ref q4, .ref q5, .ref q6, .ref q7, .null, .null, .null, .null, .null, .null, .null, .null, .null, .null, .long 0, .int 0, .null] [(q0, .inl (2, 40, .inr (.inl (fun _ => 0)))), (q1, .inl (6, 40, .inl (fun _ => 0))), (q2, .inl (6, 40, .inl (fun _ => 0))), (q3, .inl (6, 40, .inl (fun _ => 0))), (q4, .inl (6, 40, .inl (fun _ => 0))), (q5, .inl (6, 40, .inl (fun _ => 0))), (q6, .inl (2, 160, .inr (.inl (fun _ => 0)))), (q7, .inl (2, 40, .inr (.inl (fun _ => 0))))] y7 := i7.step hq7 ex7 ey7
  refine ⟨40, mc - 1 - 1 - 1 - 1 - 1 - 1 - 1 - 1 - 1, ms - 40 - 40 - 40 - 40 - 40 - 40 - 160 - 40 - 40, by decide, by decide, by decide, by omega, by omega, fun q8 hq8 x8 ex8 => ⟨_, i8.at hq8 ex8, Nat.le_of_ble_eq_true rfl, fun y8 ey8 => ?_⟩⟩
  have i9 : mI w2 h0 [.int 0, .ref q0, .ref q1, .ref q2, .ref q3, .ref q4, .ref q5, .ref q6, .ref q7, .ref q8, .null, .null, .null, .null, .null, .null, .null, .null, .null, .long 0, .int 0, .null] [(q0, .inl (2, 40, .inr (.inl (fun _ => 0)))), (q1, .inl (6, 40, .inl (fun _ => 0))), (q2, .inl (6, 40, .inl (fun _ => 0))), (q3, .inl (6, 40, .inl (fun _ => 0))), (q4, .inl (6, 40, .inl (fun _ => 0))), (q5, .inl (6, 40, .inl (fun _ => 0))), (q6, .inl (2, 160, .inr (.inl (fun _ => 0)))), (q7, .inl (2, 40, .inr (.inl (fun _ => 0)))), (q8, .inl (6, 40, .inl (fun _ => 0)))] y8 := i8.step hq8 ex8 ey8
  refine ⟨4, mc - 1 - 1 - 1 - 1 - 1 - 1 - 1 - 1 - 1 - 1, ms - 40 - 40 - 40 - 40 - 40 - 40 - 160 - 40 - 40 - 4, by decide, by decide, by decide, by omega, by omega, fun q9 hq9 x9 ex9 => ⟨_, i9.at hq9 ex9, Nat.le_of_ble_eq_true rfl, fun y9 ey9 => ?_⟩⟩
  have i10 : mI w2 h0 [.int 0, .ref q0, .ref q1, .ref q2, .ref q3, .ref q4, .ref q5, .ref q6, .ref q7, .ref q8, .ref q9, .null, .null, .null, .null, .null, .null, .null, .null, .long 0, .int 0, .null] [(q0, .inl (2, 40, .inr (.inl (fun _ => 0)))), (q1, .inl (6, 40, .inl (fun _ => 0))), (q2, .inl (6, 40, .inl (fun _ => 0))), (q3, .inl (6, 40, .inl (fun _ => 0))), (q4, .inl (6, 40, .inl (fun _ => 0))), (q5, .inl (6, 40, .inl (fun _ => 0))), (q6, .inl (2, 160, .inr (.inl (fun _ => 0)))), (q7, .inl (2, 40, .inr (.inl (fun _ => 0)))), (q8, .inl (6, 40, .inl (fun _ => 0))), (q9, .inl (2, 4, .inr (.inl (fun _ => 0))))] y9 := i9.step hq9 ex9 ey9
  refine ⟨4, mc - 1 - 1 - 1 - 1 - 1 - 1 - 1 - 1 - 1 - 1 - 1, ms - 40 - 40 - 40 - 40 - 40 - 40 - 160 - 40 - 40 - 4 - 4, by decide, by decide, by decide, by omega, by omega, fun q10 hq10 x10 ex10 => ⟨_, i10.at hq10 ex10, Nat.le_of_ble_eq_true rfl, fun y10 ey10 => ?_⟩⟩
  have i11 : mI w2 h0 [.int 0, .ref q0, .ref q1, .ref q2, .ref q3, .ref q4, .ref q5, .ref q6, .ref q7, .ref q8, .ref q9, .ref q10, .null, .null, .null, .null, .null, .null, .null, .long 0, .int 0, .null] [(q0, .inl (2, 40, .inr (.inl (fun _ => 0)))), (q1, .inl (6, 40, .inl (fun _ => 0))), (q2, .inl (6, 40, .inl (fun _ => 0))), (q3, .inl (6, 40, .inl (fun _ => 0))), (q4, .inl (6, 40, .inl (fun _ => 0))), (q5, .inl (6, 40, .inl (fun _ => 0))), (q6, .inl (2, 160, .inr (.inl (fun _ => 0)))), (q7, .inl (2, 40, .inr (.inl (fun _ => 0)))), (q8, .inl (6, 40, .inl (fun _ => 0))), (q9, .inl (2, 4, .inr (.inl (fun _ => 0)))), (q10, .inl (6, 4, .inl (fun _ => 0)))] y10 := i10.step hq10 ex10 ey10
  refine ⟨24, mc - 1 - 1 - 1 - 1 - 1 - 1 - 1 - 1 - 1 - 1 - 1 - 1, ms - 40 - 40 - 40 - 40 - 40 - 40 - 160 - 40 - 40 - 4 - 4 - 24, by decide, by decide, by decide, by omega, by omega, fun q11 hq11 x11 ex11 => ⟨_, i11.at hq11 ex11, Nat.le_of_ble_eq_true rfl, fun y11 ey11 => ?_⟩⟩
  have i12 : mI w2 h0 [.int 0, .ref q0, .ref q1, .ref q2, .ref q3, .ref q4, .ref q5, .ref q6, .ref q7, .ref q8, .ref q9, .ref q10, .ref q11, .null, .null, .null, .null, .null, .null, .long 0, .int 0, .null] [(q0, .inl (2, 40, .inr (.inl (fun _ => 0)))), (q1, .inl (6, 40, .inl (fun _ => 0))), (q2, .inl (6, 40, .inl (fun _ => 0))), (q3, .inl (6, 40, .inl (fun _ => 0))), (q4, .inl (6, 40, .inl (fun _ => 0))), (q5, .inl (6, 40, .inl (fun _ => 0))), (q6, .inl (2, 160, .inr (.inl (fun _ => 0)))), (q7, .inl (2, 40, .inr (.inl (fun _ => 0)))), (q8, .inl (6, 40, .inl (fun _ => 0))), (q9, .inl (2, 4, .inr (.inl (fun _ => 0)))), (q10, .inl (6, 4, .inl (fun _ => 0))), (q11, .inl (2, 24, .inr (.inl (fun _ => 0))))] y11 := i11.step hq11 ex11 ey11
  refine ⟨120, mc - 1 - 1 - 1 - 1 - 1 - 1 - 1 - 1 - 1 - 1 - 1 - 1 - 1, ms - 40 - 40 - 40 - 40 - 40 - 40 - 160 - 40 - 40 - 4 - 4 - 24 - 120, by decide, by decide, by decide, by omega, by omega, fun q12 hq12 x12 ex12 => ⟨_, i12.at hq12 ex12, Nat.le_of_ble_eq_true rfl, fun y12 ey12 => ?_⟩⟩
  have i13 : mI w2 h0 [.int 0, .ref q0, .ref q1, .ref q2, .ref q3, .ref q4, .ref q5, .ref q6, .ref q7, .ref q8, .ref q9, .ref q10, .ref q11, .ref q12, .null, .null, .null, .null, .null, .long 0, .int 0, .null] [(q0, .inl (2, 40, .inr (.inl (fun _ => 0)))), (q1, .inl (6, 40, .inl (fun _ => 0))), (q2, .inl (6, 40, .inl (fun _ => 0))), (q3, .inl (6, 40, .inl (fun _ => 0))), (q4, .inl (6, 40, .inl (fun _ => 0))), (q5, .inl (6, 40, .inl (fun _ => 0))), (q6, .inl (2, 160, .inr (.inl (fun _ => 0)))), (q7, .inl (2, 40, .inr (.inl (fun _ => 0)))), (q8, .inl (6, 40, .inl (fun _ => 0))), (q9, .inl (2, 4, .inr (.inl (fun _ => 0)))), (q10, .inl (6, 4, .inl (fun _ => 0))), (q11, .inl (2, 24, .inr (.inl (fun _ => 0)))), (q12, .inl (6, 120, .inl (fun _ => 0)))] y12 := i12.step hq12 ex12 ey12
  refine ⟨96, mc - 1 - 1 - 1 - 1 - 1 - 1 - 1 - 1 - 1 - 1 - 1 - 1 - 1 - 1, ms - 40 - 40 - 40 - 40 - 40 - 40 - 160 - 40 - 40 - 4 - 4 - 24 - 120 - 96, by decide, by decide, by decide, by omega, by omega, fun q13 hq13 x13 ex13 => ⟨_, i13.at hq13 ex13, Nat.le_of_ble_eq_true rfl, fun y13 ey13 => ?_⟩⟩
  have i14 : mI w2 h0 [.int 0, .ref q0, .ref q1, .ref q2, .ref q3, .ref q4, .ref q5, .ref q6, .ref q7, .ref q8, .ref q9, .ref q10, .ref q11, .ref q12, .ref q13, .null, .null, .null, .null, .long 0, .int 0, .null] [(q0, .inl (2, 40, .inr (.inl (fun _ => 0)))), (q1, .inl (6, 40, .inl (fun _ => 0))), (q2, .inl (6, 40, .inl (fun _ => 0))), (q3, .inl (6, 40, .inl (fun _ => 0))), (q4, .inl (6, 40, .inl (fun _ => 0))), (q5, .inl (6, 40, .inl (fun _ => 0))), (q6, .inl (2, 160, .inr (.inl (fun _ => 0)))), (q7, .inl (2, 40, .inr (.inl (fun _ => 0)))), (q8, .inl (6, 40, .inl (fun _ => 0))), (q9, .inl (2, 4, .inr (.inl (fun _ => 0)))), (q10, .inl (6, 4, .inl (fun _ => 0))), (q11, .inl (2, 24, .inr (.inl (fun _ => 0)))), (q12, .inl (6, 120, .inl (fun _ => 0))), (q13, .inl (2, 96, .inr (.inl (fun _ => 0))))] y13 := i13.step hq13 ex13 ey13
  refine ⟨5, mc - 1 - 1 - 1 - 1 - 1 - 1 - 1 - 1 - 1 - 1 - 1 - 1 - 1 - 1 - 1, ms - 40 - 40 - 40 - 40 - 40 - 40 - 160 - 40 - 40 - 4 - 4 - 24 - 120 - 96 - 5, by decide, by decide, by decide, by omega, by omega, fun q14 hq14 x14 ex14 => ⟨_, i14.at hq14 ex14, Nat.le_of_ble_eq_true rfl, fun y14 ey14 => ?_⟩⟩
  have i15 : mI w2 h0 [.int 0, .ref q0, .ref q1, .ref q2, .ref q3, .ref q4, .ref q5, .ref q6, .ref q7, .ref q8, .ref q9, .ref q10, .ref q11, .ref q12, .ref q13, .ref q14, .null, .null, .null, .long 0, .int 0, .null] [(q0, .inl (2, 40, .inr (.inl (fun _ => 0)))), (q1, .inl (6, 40, .inl (fun _ => 0))), (q2, .inl (6, 40, .inl (fun _ => 0))), (q3, .inl (6, 40, .inl (fun _ => 0))), (q4, .inl (6, 40, .inl (fun _ => 0))), (q5, .inl (6, 40, .inl (fun _ => 0))), (q6, .inl (2, 160, .inr (.inl (fun _ => 0)))), (q7, .inl (2, 40, .inr (.inl (fun _ => 0)))), (q8, .inl (6, 40, .inl (fun _ => 0))), (q9, .inl (2, 4, .inr (.inl (fun _ => 0)))), (q10, .inl (6, 4, .inl (fun _ => 0))), (q11, .inl (2, 24, .inr (.inl (fun _ => 0)))), (q12, .inl (6, 120, .inl (fun _ => 0))), (q13, .inl (2, 96, .inr (.inl (fun _ => 0)))), (q14, .inl (6, 5, .inl (fun _ => 0)))] y14 := i14.step hq14 ex14 ey14
  refine ⟨4, mc - 1 - 1 - 1 - 1 - 1 - 1 - 1 - 1 - 1 - 1 - 1 - 1 - 1 - 1 - 1 - 1, ms - 40 - 40 - 40 - 40 - 40 - 40 - 160 - 40 - 40 - 4 - 4 - 24 - 120 - 96 - 5 - 4, by decide, by decide, by decide, by omega, by omega, fun q15 hq15 x15 ex15 => ⟨_, i15.at hq15 ex15, Nat.le_of_ble_eq_true rfl, fun y15 ey15 => ?_⟩⟩
  have i16 : mI w2 h0 [.int 0, .ref q0, .ref q1, .ref q2, .ref q3, .ref q4, .ref q5, .ref q6, .ref q7, .ref q8, .ref q9, .ref q10, .ref q11, .ref q12, .ref q13, .ref q14, .ref q15, .null, .null, .long 0, .int 0, .null] [(q0, .inl (2, 40, .inr (.inl (fun _ => 0)))), (q1, .inl (6, 40, .inl (fun _ => 0))), (q2, .inl (6, 40, .inl (fun _ => 0))), (q3, .inl (6, 40, .inl (fun _ => 0))), (q4, .inl (6, 40, .inl (fun _ => 0))), (q5, .inl (6, 40, .inl (fun _ => 0))), (q6, .inl (2, 160, .inr (.inl (fun _ => 0)))), (q7, .inl (2, 40, .inr (.inl (fun _ => 0)))), (q8, .inl (6, 40, .inl (fun _ => 0))), (q9, .inl (2, 4, .inr (.inl (fun _ => 0)))), (q10, .inl (6, 4, .inl (fun _ => 0))), (q11, .inl (2, 24, .inr (.inl (fun _ => 0)))), (q12, .inl (6, 120, .inl (fun _ => 0))), (q13, .inl (2, 96, .inr (.inl (fun _ => 0)))), (q14, .inl (6, 5, .inl (fun _ => 0))), (q15, .inl (2, 4, .inr (.inl (fun _ => 0))))] y15 := i15.step hq15 ex15 ey15
  refine ⟨5, mc - 1 - 1 - 1 - 1 - 1 - 1 - 1 - 1 - 1 - 1 - 1 - 1 - 1 - 1 - 1 - 1 - 1, ms - 40 - 40 - 40 - 40 - 40 - 40 - 160 - 40 - 40 - 4 - 4 - 24 - 120 - 96 - 5 - 4 - 5, by decide, by decide, by decide, by omega, by omega, fun q16 hq16 x16 ex16 => ⟨_, i16.at hq16 ex16, Nat.le_of_ble_eq_true rfl, fun y16 ey16 => ?_⟩⟩
  have i17 : mI w2 h0 [.int 0, .ref q0, .ref q1, .ref q2, .ref q3, .ref q4, .ref q5, .ref q6, .ref q7, .ref q8, .ref q9, .ref q10, .ref q11, .ref q12, .ref q13, .ref q14, .ref q15, .ref q16, .null, .long 0, .int 0, .null] [(q0, .inl (2, 40, .inr (.inl (fun _ => 0)))), (q1, .inl (6, 40, .inl (fun _ => 0))), (q2, .inl (6, 40, .inl (fun _ => 0))), (q3, .inl (6, 40, .inl (fun _ => 0))), (q4, .inl (6, 40, .inl (fun _ => 0))), (q5, .inl (6, 40, .inl (fun _ => 0))), (q6, .inl (2, 160, .inr (.inl (fun _ => 0)))), (q7, .inl (2, 40, .inr (.inl (fun _ => 0)))), (q8, .inl (6, 40, .inl (fun _ => 0))), (q9, .inl (2, 4, .inr (.inl (fun _ => 0)))), (q10, .inl (6, 4, .inl (fun _ => 0))), (q11, .inl (2, 24, .inr (.inl (fun _ => 0)))), (q12, .inl (6, 120, .inl (fun _ => 0))), (q13, .inl (2, 96, .inr (.inl (fun _ => 0)))), (q14, .inl (6, 5, .inl (fun _ => 0))), (q15, .inl (2, 4, .inr (.inl (fun _ => 0)))), (q16, .inl (6, 5, .inl (fun _ => 0)))] y16 := i16.step hq16 ex16 ey16
  refine ⟨4, mc - 1 - 1 - 1 - 1 - 1 - 1 - 1 - 1 - 1 - 1 - 1 - 1 - 1 - 1 - 1 - 1 - 1 - 1, ms - 40 - 40 - 40 - 40 - 40 - 40 - 160 - 40 - 40 - 4 - 4 - 24 - 120 - 96 - 5 - 4 - 5 - 4, by decide, by decide, by decide, by omega, by omega, fun q17 hq17 x17 ex17 => ⟨_, i17.at hq17 ex17, Nat.le_of_ble_eq_true rfl, fun y17 ey17 => ?_⟩⟩
  have i18 : mI w2 h0 [.int 0, .ref q0, .ref q1, .ref q2, .ref q3, .ref q4, .ref q5, .ref q6, .ref q7, .ref q8, .ref q9, .ref q10, .ref q11, .ref q12, .ref q13, .ref q14, .ref q15, .ref q16, .ref q17, .long 0, .int 0, .null] [(q0, .inl (2, 40, .inr (.inl (fun _ => 0)))), (q1, .inl (6, 40, .inl (fun _ => 0))), (q2, .inl (6, 40, .inl (fun _ => 0))), (q3, .inl (6, 40, .inl (fun _ => 0))), (q4, .inl (6, 40, .inl (fun _ => 0))), (q5, .inl (6, 40, .inl (fun _ => 0))), (q6, .inl (2, 160, .inr (.inl (fun _ => 0)))), (q7, .inl (2, 40, .inr (.inl (fun _ => 0)))), (q8, .inl (6, 40, .inl (fun _ => 0))), (q9, .inl (2, 4, .inr (.inl (fun _ => 0)))), (q10, .inl (6, 4, .inl (fun _ => 0))), (q11, .inl (2, 24, .inr (.inl (fun _ => 0)))), (q12, .inl (6, 120, .inl (fun _ => 0))), (q13, .inl (2, 96, .inr (.inl (fun _ => 0)))), (q14, .inl (6, 5, .inl (fun _ => 0))), (q15, .inl (2, 4, .inr (.inl (fun _ => 0)))), (q16, .inl (6, 5, .inl (fun _ => 0))), (q17, .inl (2, 4, .inr (.inl (fun _ => 0))))] y17 := i17.step hq17 ex17 ey17
  refine ⟨40, mc - 1 - 1 - 1 - 1 - 1 - 1 - 1 - 1 - 1 - 1 - 1 - 1 - 1 - 1 - 1 - 1 - 1 - 1 - 1, ms - 40 - 40 - 40 - 40 - 40 - 40 - 160 - 40 - 40 - 4 - 4 - 24 - 120 - 96 - 5 - 4 - 5 - 4 - 40, by decide, by decide, by decide, by omega, by omega, fun q18 hq18 x18 ex18 => ⟨_, i18.at hq18 ex18, Nat.le_of_ble_eq_true rfl, fun y18 ey18 => ?_⟩⟩
  have i19 : mI w2 h0 [.int 0, .ref q0, .ref q1, .ref q2, .ref q3, .ref q4, .ref q5, .ref q6, .ref q7, .ref q8, .ref q9, .ref q10, .ref q11, .ref q12, .ref q13, .ref q14, .ref q15, .ref q16, .ref q17, .long 0, .int 0, .ref q18] [(q0, .inl (2, 40, .inr (.inl (fun _ => 0)))), (q1, .inl (6, 40, .inl (fun _ => 0))), (q2, .inl (6, 40, .inl (fun _ => 0))), (q3, .inl (6, 40, .inl (fun _ => 0))), (q4, .inl (6, 40, .inl (fun _ => 0))), (q5, .inl (6, 40, .inl (fun _ => 0))), (q6, .inl (2, 160, .inr (.inl (fun _ => 0)))), (q7, .inl (2, 40, .inr (.inl (fun _ => 0)))), (q8, .inl (6, 40, .inl (fun _ => 0))), (q9, .inl (2, 4, .inr (.inl (fun _ => 0)))), (q10, .inl (6, 4, .inl (fun _ => 0))), (q11, .inl (2, 24, .inr (.inl (fun _ => 0)))), (q12, .inl (6, 120, .inl (fun _ => 0))), (q13, .inl (2, 96, .inr (.inl (fun _ => 0)))), (q14, .inl (6, 5, .inl (fun _ => 0))), (q15, .inl (2, 4, .inr (.inl (fun _ => 0)))), (q16, .inl (6, 5, .inl (fun _ => 0))), (q17, .inl (2, 4, .inr (.inl (fun _ => 0)))), (q18, .inl (6, 40, .inl (fun _ => 0)))] y18 := i18.step hq18 ex18 ey18
  obtain ⟨ad, w5, h3, h4⟩ := i19.split rfl rfl
  exact h ad _ w5 h3 h4
theorem ki_W {post : fh_T → Prop} {w0 w1 : fh_T} {t x0 mc ms : Nat} (ht : w0 t = some fh_mark) (hx : w0 x0 = none) (e1 : w1 = fh_up w0 x0 (.inr (1, [.null, .null, .null, .null]))) (hmc : 100 ≤ mc) (hms : 1000 ≤ ms) (h : ∀ as d0 l0 d1 l1 w w', as.getD 0 0 = x0 → xP 4 as t w → (as ++ [d0, l0, d1, l1]).Nodup → (∀ a, w a ≠ none → a ≠ as.getD 0 0 → w' a = w a) → w' (as.getD 0 0) = some (.inr (1, [.ref (as.getD 1 0), .ref (as.getD 4 0), .ref d0, .ref d1])) → w' d0 = some (.inr (6, [.int 0, .int 0, .int 0, .int 0, .int 0, .ref l0])) → w' l0 = some (.inl (2, 4, .inr (.inl (fun _ => 0)))) → w' d1 = some (.inr (6, [.int 0, .int 0, .int 0, .int 0, .int 0, .ref l1])) → w' l1 = some (.inl (2, 4, .inr (.inl (fun _ => 0)))) → post w') : wKXW_init post w1 mc ms x0 := by
  refine ⟨mc - 1, ms - 1, by omega, by omega, fun q1 hq1 w2 e2 => ⟨2, 42, mc - 1 - 2, ms - 1 - 42, by omega, by omega, ⟨1, 40, rfl, rfl, fun q2 hq2 w3 e3 => ⟨1, 40, 0, 0, rfl, rfl, ki_Ro (fe e3) (Nat.le_refl _) (Nat.le_refl _) (fun q3 w4 hq3 fr4 r4 s4 => ?_)⟩⟩⟩⟩
  have n1 : q1 ≠ x0 := fun z => by rw [z, fe e1] at hq1; cases hq1
  have x2 := (fn e2 n1.symm).trans (fe e1)
  have n2x : q2 ≠ x0 := fun z => by rw [z, x2] at hq2; cases hq2
  have n21 : q2 ≠ q1 := fun z => by rw [z, fe e2] at hq2; cases hq2
  have x3 := (fn e3 n2x.symm).trans x2
  have k3 := (fn e3 n21.symm).trans (fe e2)
  have n3x : q3 ≠ x0 := fun z => by rw [z, x3] at hq3; cases hq3
  have n31 : q3 ≠ q1 := fun z => by rw [z, k3] at hq3; cases hq3
  have n32 : q3 ≠ q2 := fun z => by rw [z, fe e3] at hq3; cases hq3
  have x4 := (fr4 x0 n2x.symm n3x.symm).trans x3
  have k4 := (fr4 q1 n21.symm n31.symm).trans k3
  refine ⟨_, k4, Nat.le_of_ble_eq_true rfl, fun w5 e5 => ⟨_, (fn e5 n1.symm).trans x4, Nat.le_of_ble_eq_true rfl, fun w6 e6 => ⟨4, mc - 1 - 2 - 1, ms - 1 - 42 - 4, by decide, by decide, by decide, by omega, by omega, fun q4 hq4 w7 e7 => ?_⟩⟩⟩
  have x6 := fe e6
  have k6 : w6 q1 = some (.inr (2, [.ref q2])) := (fn e6 n1).trans (fe e5)
  have r6 := (fn e6 n2x).trans ((fn e5 n21).trans r4)
  have s6 := (fn e6 n3x).trans ((fn e5 n31).trans s4)
  have n4x : q4 ≠ x0 := fun z => by rw [z, x6] at hq4; cases hq4
  have n41 : q4 ≠ q1 := fun z => by rw [z, k6] at hq4; cases hq4
  have n42 : q4 ≠ q2 := fun z => by rw [z, r6] at hq4; cases hq4
  have n43 : q4 ≠ q3 := fun z => by rw [z, s6] at hq4; cases hq4
  have tx : t ≠ x0 := fun z => by rw [← z, ht] at hx; cases hx
  have t1 := (fn e1 tx).trans ht
  have tq1 : t ≠ q1 := fun z => by rw [← z, t1] at hq1; cases hq1
  have t2 := (fn e2 tq1).trans t1
  have tq2 : t ≠ q2 := fun z => by rw [← z, t2] at hq2; cases hq2
  have t3 := (fn e3 tq2).trans t2
  have tq3 : t ≠ q3 := fun z => by rw [← z, t3] at hq3; cases hq3
  have t6 := (fn e6 tx).trans ((fn e5 tq1).trans ((fr4 t tq2 tq3).trans t3))
  have tq4 : t ≠ q4 := fun z => by rw [← z, t6] at hq4; cases hq4
  refine ⟨_, (fn e7 n4x.symm).trans x6, Nat.le_of_ble_eq_true rfl, fun w8 e8 => ⟨4 + 1, ?_⟩⟩
  have c0 : w8 x0 = some (.inr (1, [.ref q1, .ref q4, .null, .null])) := fe e8
  have c1 : w8 q1 = some (.inr (2, [.ref q2])) := (fn e8 n1).trans ((fn e7 n41.symm).trans k6)
  have c2 : w8 q2 = some (.inr (3, [.ref q3, .int 0])) := (fn e8 n2x).trans ((fn e7 n42.symm).trans r6)
  have c3 := (fn e8 n3x).trans ((fn e7 n43.symm).trans s6)
  have c4 := (fn e8 n4x).trans (fe e7)
  have hP : xP 0 [x0, q1, q2, q3, q4] t w8 := by
    refine ⟨rfl, ?_, fun a ha => ?_, (fn e8 tx).trans ((fn e7 tq4).trans t6), c0, c1, ⟨c2, _, c3⟩, ⟨_, c4, fun s hs => absurd hs (Nat.not_lt_zero s)⟩, fun s hs => absurd hs (Nat.not_lt_zero s)⟩
    · simp only [List.nodup_cons, List.mem_cons, List.not_mem_nil, or_false, not_or, not_false_eq_true, List.nodup_nil, and_true]
      exact ⟨⟨n1.symm, n2x.symm, n3x.symm, n4x.symm⟩, ⟨n21.symm, n31.symm, n41.symm⟩, ⟨n32.symm, n42.symm⟩, n43.symm⟩
    · simp only [List.mem_cons, List.not_mem_nil, or_false] at ha
      rcases ha with rfl | rfl | rfl | rfl | rfl
      · rw [c0]; exact fun z => nomatch z
      · rw [c1]; exact fun z => nomatch z
      · rw [c2]; exact fun z => nomatch z
      · rw [c3]; exact fun z => nomatch z
      · rw [c4]; exact fun z => nomatch z
  exact ki_25 h 4 0 [x0, q1, q2, q3, q4] w8 (mc - 1 - 2 - 1) (ms - 1 - 42 - 4) rfl rfl hP (by omega) (by omega)
/-- where the world's addresses lie in the order in which they came -/
def xposL : List Nat := [0, 1, 4, 29, 30, 31, 32, 2, 3, 6, 7, 8, 9, 12, 13, 14, 15, 18, 19, 20, 21, 24, 25, 26, 27, 5, 11, 17, 23, 10, 16, 22, 28]
theorem xpos_nd : xposL.Nodup := by decide +kernel
theorem xpos_lt : ∀ i, i < 33 → xposL.getD i 0 < 33 := by decide +kernel
theorem xpos_s : ∀ s, s < 4 → xposL.getD (25 + s) 0 = 5 + 6 * s ∧ xposL.getD (29 + s) 0 = 10 + 6 * s ∧ xposL.getD (9 + 4 * s) 0 = 6 + 6 * s ∧ xposL.getD (10 + 4 * s) 0 = 7 + 6 * s ∧ xposL.getD (11 + 4 * s) 0 = 8 + 6 * s ∧ xposL.getD (12 + 4 * s) 0 = 9 + 6 * s := by decide +kernel
def xad (as : List Nat) (i : Nat) : Nat := as.getD (xposL.getD i 0) 0
theorem xe.row {w : fh_T} {row pl : Nat} {mb : Nat → Nat} (h : xe w row pl) : xRow w row pl mb [] := by
  obtain ⟨a, f, b⟩ := h
  exact ⟨a, Nat.zero_le _, f, b, fun k hk => absurd hk (Nat.not_lt_zero k)⟩
abbrev ho_K0 : Nat → ho_M := fun _ => (ho_O0, 0, 0, 0)
theorem ho_ok0 {K : Nat → ho_M} : ho_ok K 0 := ⟨Nat.zero_le _, fun i j hi => absurd hi (Nat.not_lt_zero i), fun g hg => absurd hg (Nat.not_lt_zero g)⟩
theorem xinit {as : List Nat} {d0 l0 d1 l1 t : Nat} {w w' : fh_T} (hP : xP 4 as t w) (hN : (as ++ [d0, l0, d1, l1]).Nodup) (hfr : ∀ a, w a ≠ none → a ≠ as.getD 0 0 → w' a = w a) (c0 : w' (as.getD 0 0) = some (.inr (1, [.ref (as.getD 1 0), .ref (as.getD 4 0), .ref d0, .ref d1]))) (c1 : w' d0 = some (.inr (6, [.int 0, .int 0, .int 0, .int 0, .int 0, .ref l0]))) (c2 : w' l0 = some (.inl (2, 4, .inr (.inl (fun _ => 0))))) (c3 : w' d1 = some (.inr (6, [.int 0, .int 0, .int 0, .int 0, .int 0, .ref l1]))) (c4 : w' l1 = some (.inl (2, 4, .inr (.inl (fun _ => 0))))) : xR (xad (as ++ [d0, l0, d1, l1])) (fun _ => 0) ho_K0 0 (fun _ => 0) (fun _ => []) (fun _ => ho_O0) w' := by
  obtain ⟨g1, g2, g3, g4, g5, g6, g7, ⟨f, g8, g9⟩, g10⟩ := hP
  have g1 : as.length = 29 := g1
  have gl : ∀ k, k < 29 → (as ++ [d0, l0, d1, l1]).getD k 0 = as.getD k 0 := fun k hk => getD_left (by omega)
  have gr : ∀ k, (as ++ [d0, l0, d1, l1]).getD (29 + k) 0 = [d0, l0, d1, l1].getD k 0 := fun k => by rw [← g1]; exact getD_add
  have kp : ∀ k, k < 29 → k ≠ 0 → w' (as.getD k 0) = w (as.getD k 0) := fun k hk h0 => hfr _ (g3 _ (getD_mem (by omega))) (nd_ne g2 (by omega) (by omega) h0)
  have mt : w' t = some fh_mark := by
    rw [hfr t (by rw [g4]; exact fun z => nomatch z) (fx_ne g4 g5 (fun z => nomatch z))]; exact g4
  have a0 : xad (as ++ [d0, l0, d1, l1]) 0 = as.getD 0 0 := gl 0 (by omega)
  have a1 : xad (as ++ [d0, l0, d1, l1]) 1 = as.getD 1 0 := gl 1 (by omega)
  have a2 : xad (as ++ [d0, l0, d1, l1]) 2 = as.getD 4 0 := gl 4 (by omega)
  have a3 : xad (as ++ [d0, l0, d1, l1]) 3 = d0 := gr 0
  have a4 : xad (as ++ [d0, l0, d1, l1]) 4 = l0 := gr 1
  have a5 : xad (as ++ [d0, l0, d1, l1]) 5 = d1 := gr 2
  have a6 : xad (as ++ [d0, l0, d1, l1]) 6 = l1 := gr 3
  have a7 : xad (as ++ [d0, l0, d1, l1]) 7 = as.getD 2 0 := gl 2 (by omega)
  have a8 : xad (as ++ [d0, l0, d1, l1]) 8 = as.getD 3 0 := gl 3 (by omega)
  have ha : ∀ i k, xposL.getD i 0 = k → k < 29 → xad (as ++ [d0, l0, d1, l1]) i = as.getD k 0 := fun i k h1 h2 => by
    unfold xad
    rw [h1]
    exact gl k h2
  have hn : ∀ g, ¬ hb 0 g = true := fun g z => by rw [hb_0] at z; cases z
  have hz : ∀ g, ¬ hb (ho_hds ho_K0 0 0) g = true := fun g z => by
    unfold ho_hds at z
    rw [hb_and, hb_0] at z
    cases z
  have nm : ∀ {α : Type} {x : α}, ¬ x ∈ ([] : List α) := fun {α x} => List.not_mem_nil
  refine ⟨fun _ => t, fun _ => [], ⟨fun i j hi hj e => ?_, fun _ _ _ _ _ _ => mt, ?_, ?_, ⟨f, ?_, fun r hr => ?_⟩, fun d hd => ?_, fun k hk => ?_, fun r hr => ?_, fun r hr => ⟨0, ?_, Or.inl ⟨rfl, mt⟩⟩, fun g hg => absurd hg (Nat.not_lt_zero g), fun _ _ g hg => absurd hg nm⟩, rfl, ho_ok0, fun r _ => ⟨Nat.zero_le _, fun o ho => absurd ho nm⟩, fun r _ => ⟨fun g hg => absurd hg (hn g), ⟨fun g => ⟨fun z => absurd z nm, fun z => absurd z (hn g)⟩, List.Pairwise.nil⟩, ⟨fun g => ⟨fun z => absurd z nm, fun z => absurd z (hz g)⟩, List.Pairwise.nil⟩⟩⟩
  · have hl4 : (as ++ [d0, l0, d1, l1]).length = 33 := by rw [List.length_append, g1]; rfl
    by_cases q : i = j
    · exact q
    · exact absurd e (nd_ne hN (by rw [hl4]; exact xpos_lt i hi) (by rw [hl4]; exact xpos_lt j hj) (nd_ne xpos_nd hi hj q))
  · rw [a0, a1, a2, a3, a5]; exact c0
  · rw [a1, a7, kp 1 (by omega) (by omega)]; exact g6
  · rw [a2, kp 4 (by omega) (by omega)]; exact g8
  · rw [g9 r hr, ha _ _ (xpos_s r hr).1 (by omega)]
  · have hd : d = 0 ∨ d = 1 := by omega
    rcases hd with rfl | rfl
    · have : xD w' d0 l0 ho_O0 := ⟨c1, Nat.zero_le _, _, c2, fun j hj => absurd hj (Nat.not_lt_zero j)⟩
      show xD w' (xad _ 3) (xad _ 4) ho_O0
      rw [a3, a4]
      exact this
    · have : xD w' d1 l1 ho_O0 := ⟨c3, Nat.zero_le _, _, c4, fun j hj => absurd hj (Nat.not_lt_zero j)⟩
      show xD w' (xad _ 5) (xad _ 6) ho_O0
      rw [a5, a6]
      exact this
  · have hk3 : k = 0 ∨ ((k - 1) / 2 < 4 ∧ (k = 1 + 2 * ((k - 1) / 2) ∨ k = 2 + 2 * ((k - 1) / 2))) := by omega
    generalize (k - 1) / 2 = s at hk3
    rcases hk3 with rfl | ⟨hs, rfl | rfl⟩
    · have := (g7.fr (kp 2 (by omega) (by omega)) (kp 3 (by omega) (by omega))).row (mb := fun _ => 0)
      rw [← a7, ← a8] at this
      exact this
    · obtain ⟨-, -, p1, p2, -⟩ := xpos_s s hs
      have := ((g10 s hs).2.1.fr (kp _ (by omega) (by omega)) (kp _ (by omega) (by omega))).row (mb := fun _ => 0)
      rw [show 7 + 2 * (1 + 2 * s) = 9 + 4 * s by omega, show 8 + 2 * (1 + 2 * s) = 10 + 4 * s by omega, ha _ _ p1 (by omega), ha _ _ p2 (by omega)]
      exact this
    · obtain ⟨-, -, -, -, p1, p2⟩ := xpos_s s hs
      have := ((g10 s hs).2.2.1.fr (kp _ (by omega) (by omega)) (kp _ (by omega) (by omega))).row (mb := fun _ => 0)
      rw [show 7 + 2 * (2 + 2 * s) = 11 + 4 * s by omega, show 8 + 2 * (2 + 2 * s) = 12 + 4 * s by omega, ha _ _ p1 (by omega), ha _ _ p2 (by omega)]
      exact this
  · obtain ⟨p1, p2, p3, -, p4, -⟩ := xpos_s r hr
    rw [a1, ha _ _ p1 (by omega), ha _ _ p2 (by omega), ha _ _ p3 (by omega), ha _ _ p4 (by omega), kp _ (by omega) (by omega)]
    exact (g10 r hr).1
  · rw [ha _ _ (xpos_s r hr).2.1 (by omega), kp _ (by omega) (by omega)]
    exact (g10 r hr).2.2.2
theorem mR0 : mR (ho_K0, 0, fun _ => 0, fun _ => []) ho_O0 (fun _ _ => 0) (fun _ _ => 0) 0 := ⟨ho_ok0, ⟨Nat.zero_le _, rfl, fun i j hi => absurd hi (Nat.not_lt_zero i), fun g hg => absurd hg (Nat.not_lt_zero g)⟩, fun _ _ => rfl, fun _ _ => ⟨Nat.zero_le _, fun o ho => absurd ho List.not_mem_nil, rfl, fun i hi => absurd hi (Nat.not_lt_zero i)⟩, rfl, rfl, rfl, rfl, rfl, Nat.zero_le _, fun j hj => absurd hj (Nat.not_lt_zero j)⟩
theorem lw_start {xs : Nat → Int32} {L : Nat} (hL : L ≤ 2560) : lwStart xs L := by
  intro w0 t e0 x0 hx w1 e1
  have ht : w0 t = some fh_mark := by rw [e0]; exact if_pos rfl
  refine ⟨100, 1000, 100, 1000, 599798, 7300224, rfl, rfl, ki_W ht hx e1 (Nat.le_refl _) (Nat.le_refl _) (fun as d0 l0 d1 l1 w w2 k0 k1 k2 k3 k4 k5 k6 k7 k8 h0 hh w3 e3 => ?_)⟩
  have hR := xinit k1 k2 k3 k4 k5 k6 k7 k8
  refine mi_walk hh e3 (by omega) (by omega) (fun ad w4 w5 hs hE => ⟨ad, w5, hs, 513 + 1, ?_⟩)
  have hst : st (xad (as ++ [d0, l0, d1, l1])) w5 (fun _ _ => 0) (fun _ _ => 0) 0 := ⟨_, (ho_K0, 0, fun _ => 0, fun _ => []), fun _ => ho_O0, hR.ext hE, mR0⟩
  have h := law_loop (xs := xs) hL 513 0 w5 599798 7300224 (fun _ _ => 0) (fun _ _ => 0) 0 0 0 rfl hst (by omega) (by omega)
  have e0 : xad (as ++ [d0, l0, d1, l1]) 0 = x0 := (getD_left (show 0 < as.length by rw [k1.1]; omega)).trans k0
  rw [e0] at h
  exact h
