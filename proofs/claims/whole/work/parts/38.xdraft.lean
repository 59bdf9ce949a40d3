/-! the class: drafts -/
theorem l_getD_last {P : List Int64} {g : Int64} : (P ++ [g]).getD P.length 0 = g := by
  rw [List.getD_eq_getElem?_getD, List.getElem?_append_right (Nat.le_refl _), Nat.sub_self]
  rfl
theorem l_getD_left {P Q : List Int64} {j : Nat} (h : j < P.length) : (P ++ Q).getD j 0 = P.getD j 0 := by
  rw [List.getD_eq_getElem?_getD, List.getElem?_append_left h, List.getD_eq_getElem?_getD]
section XD
variable {ad : Nat → Nat} {w : fh_T} {d dl : Nat} {o : ho_O}
theorem kx_begin {post : fh_T → Prop} {a1 a2 a3 a4 : Int32} (hD : xD w d dl o) (h : ∀ w', (∀ a, a ≠ d → w' a = w a) → xD w' d dl (0, (a1, a2, a3, a4), []) → post w') : wKXDr_begin post w d a1 a2 a3 a4 := by
  obtain ⟨d1, d2, f, d3, d4⟩ := hD
  have nd : dl ≠ d := fx_ne d3 d1 (fun z => nomatch z)
  exact ⟨_, d1, Nat.le_of_ble_eq_true rfl, fun w2 e2 => ⟨_, fe e2, Nat.le_of_ble_eq_true rfl, fun w6 e6 => ⟨_, fe e6, Nat.le_of_ble_eq_true rfl, fun w10 e10 => ⟨_, fe e10, Nat.le_of_ble_eq_true rfl, fun w14 e14 => ⟨_, fe e14, Nat.le_of_ble_eq_true rfl, fun w18 e18 => h w18 (fun a ha => by rw [fn e18 ha, fn e14 ha, fn e10 ha, fn e6 ha, fn e2 ha]) ⟨fe e18, Nat.zero_le _, f, by rw [fn e18 nd, fn e14 nd, fn e10 nd, fn e6 nd, fn e2 nd]; exact d3, fun j hj => absurd hj (Nat.not_lt_zero _)⟩⟩⟩⟩⟩⟩
theorem kx_append {post : Int32 → fh_T → Prop} {x : Int64} (hD : xD w d dl o) (h0 : ¬ o.2.2.length < 4 → post 0 w) (h : o.2.2.length < 4 → ∀ w', (∀ a, a ≠ d → a ≠ dl → w' a = w a) → xD w' d dl (o.1, o.2.1, o.2.2 ++ [x]) → post 1 w') : wKXDr_append post w d x := by
  obtain ⟨d1, d2, f, d3, d4⟩ := hD
  have nd : dl ≠ d := fx_ne d3 d1 (fun z => nomatch z)
  refine ⟨_, ⟨_, d1, rfl⟩, ?_⟩
  rw [show (4 : Int32) = nI 4 from rfl, nI_ltI (by omega) (by omega)]
  refine ⟨fun c => ⟨_, ⟨_, d1, rfl⟩, _, ⟨_, d1, rfl⟩, _, _, d3, vp_in_nI c (by omega), fun w12 e12 => ⟨_, ⟨_, (fn e12 nd.symm).trans d1, rfl⟩, _, (fn e12 nd.symm).trans d1, Nat.le_of_ble_eq_true rfl, fun w16 e16 => h c w16 (fun a ha hb => by rw [fn e16 ha, fn e12 hb]) ⟨?_, ?_, _, by rw [fn e16 nd]; exact fe e12, fun j hj => ?_⟩⟩⟩, h0⟩
  · rw [fe e16, nI_1]
    show _ = some (Sum.inr (6, [_, _, _, _, Value.int (nI (o.2.2 ++ [x]).length), _]))
    rw [List.length_append]
    rfl
  · show (o.2.2 ++ [x]).length ≤ 4
    rw [List.length_append]
    exact c
  · have hj : j < (o.2.2 ++ [x]).length := hj
    rw [List.length_append] at hj
    show _ = (o.2.2 ++ [x]).getD j 0
    rw [tN (show o.2.2.length < 2 ^ 31 by omega)]
    by_cases q : j = o.2.2.length
    · rw [q, pk_uLs, l_getD_last]
    · have hj2 : j < o.2.2.length := by simp at hj; omega
      rw [pk_uLn (by omega), d4 j hj2, l_getD_left hj2]
theorem kx_copyOf {post : Option Nat → fh_T → Prop} {mc ms len : Nat} {f : Nat → Int64} (hd : w dl = some (.inl (2, 4, .inr (.inl f)))) (hl : len ≤ 4) (hmc : 1 ≤ mc) (hms : 4 ≤ ms) (h : ∀ q w' g, xE w w' → w q = none → w' q = some (.inl (2, len, .inr (.inl g))) → (∀ j, j < len → g j = f j) → post (some q) w') : wKXAr_copyOf post w mc ms dl (nI len) := by
  refine ⟨_, _, hd, fun c => ?_, fun c => ?_⟩
  · have hl4 : len < 4 := by
      rcases Nat.lt_or_ge len 4 with q | q
      · exact q
      · exact absurd (by rw [show len = 4 by omega]) c
    have em : (if nI len < nI 4 then nI len else nI 4) = nI len := if_pos (nI_lt hl4 (by decide))
    refine ⟨len, mc - 1, ms - len, nI_pos (by omega), tN (by omega), ?_, by omega, by omega, fun q hq w6 e6 => ?_⟩
    · have : len * componentBytes .long ≤ 4 * componentBytes .long := Nat.mul_le_mul_right _ hl
      exact Nat.le_trans this (by decide)
    have nq : dl ≠ q := fun z => by rw [← z, hd] at hq; cases hq
    have d6 : w6 dl = some (.inl (2, 4, .inr (.inl f))) := (fn e6 nq).trans hd
    refine ⟨_, _, d6, _, _, _, _, d6, fe e6, by decide, by decide, ?_, ?_, ?_, fun w13 e13 => ?_⟩
    · rw [em]; exact nI_pos (by omega)
    · rw [em, tN (by omega)]; show 0 + len ≤ 4; omega
    · rw [em, tN (by omega)]; show 0 + len ≤ len; omega
    · rw [em, tN (by omega)] at e13
      have hE : xE w w13 := fun a ha => by
        have nqa : a ≠ q := fun z => ha (by rw [z]; exact hq)
        rw [fn e13 nqa, fn e6 nqa]
      refine h q w13 _ hE hq (fe e13) (fun j hj => ?_)
      rw [t32_0, pk_cpy_in (Nat.zero_le _) (by omega)]
      congr 1
      omega
  · have e4 : len = 4 := (nI_eq (by omega) (by decide)).mp c
    subst e4
    refine ⟨_, _, mc - 1, ms - 4, hd, by omega, by omega, fun q hq w24 e24 => ⟨_, _, fe e24, h q w24 f (xE.up hq e24) hq (fe e24) (fun _ _ => rfl)⟩⟩
theorem kx_op83 {post : fh_T → Prop} {q la : Nat} {ls : List Int64} {f : Nat → Int64} {h5 : Int64} {v0 v1 v2 v3 v4 v5 : Value} (hl : ls.length ≤ 4) (hq : w q = some (.inr (5, [v0, v1, v2, v3, v4, v5]))) (hla : w la = some (.inl (2, ls.length, .inr (.inl f)))) (hf : ∀ j, j < ls.length → f j = ls.getD j 0) (h : ∀ w', (∀ a, a ≠ q → w' a = w a) → w' q = some (.inr (5, [v0, v1, v2, v3, v4, .long (ho_hl h5 (fun j => ls.getD j 0) ls.length)])) → post w') : ∀ d j, j + d = ls.length → wKXOp_init_83 post (d + 1) w q la (ho_hl h5 (fun j => ls.getD j 0) j) (nI j) := by
  intro d
  induction d with
  | zero =>
    intro j e
    have e : j = ls.length := by omega
    subst e
    rw [wKXOp_init_83_s]
    exact ⟨_, _, hla, fun _ => ⟨_, hq, Nat.le_of_ble_eq_true rfl, fun w34 e34 => h w34 (fun a ha => fn e34 ha) (fe e34)⟩, fun c => absurd (nI_le (Nat.le_refl _) (by omega)) c⟩
  | succ d ih =>
    intro j e
    rw [wKXOp_init_83_s]
    refine ⟨_, _, hla, fun c => absurd c (nI_ge (by omega) (by omega)), fun _ => ⟨_, _, hla, vp_in_nI (by omega) (by omega), ?_⟩⟩
    have := ih (j + 1) (by omega)
    rw [tN (show j < 2 ^ 31 by omega), hf j (by omega), nI_1]
    exact this
theorem kx_op {post : fh_T → Prop} {q la : Nat} {ls : List Int64} {f : Nat → Int64} {n : Int32 × Int32 × Int32 × Int32} {v0 v1 v2 v3 v4 v5 : Value} (hl : ls.length ≤ 4) (hq : w q = some (.inr (5, [v0, v1, v2, v3, v4, v5]))) (hla : w la = some (.inl (2, ls.length, .inr (.inl f)))) (hf : ∀ j, j < ls.length → f j = ls.getD j 0) (h : ∀ w', (∀ a, a ≠ q → w' a = w a) → w' q = some (.inr (5, [.int n.1, .int n.2.1, .int n.2.2.1, .int n.2.2.2, .ref la, .long (ho_hashO n ls)])) → post w') : wKXOp_init post w q n.1 n.2.1 n.2.2.1 n.2.2.2 la := by
  have nl : la ≠ q := fx_ne hla hq (fun z => nomatch z)
  refine ⟨_, hq, Nat.le_of_ble_eq_true rfl, fun w2 e2 => ⟨_, fe e2, Nat.le_of_ble_eq_true rfl, fun w6 e6 => ⟨_, fe e6, Nat.le_of_ble_eq_true rfl, fun w10 e10 => ⟨_, fe e10, Nat.le_of_ble_eq_true rfl, fun w14 e14 => ⟨_, fe e14, Nat.le_of_ble_eq_true rfl, fun w18 e18 => ?_⟩⟩⟩⟩⟩
  have fr : ∀ a, a ≠ q → w18 a = w a := fun a ha => by rw [fn e18 ha, fn e14 ha, fn e10 ha, fn e6 ha, fn e2 ha]
  have l18 : w18 la = some (.inl (2, ls.length, .inr (.inl f))) := (fr la nl).trans hla
  refine ⟨_, _, l18, _, kx_op83 hl (fe e18) l18 hf (fun w' g1 g2 => h w' (fun a ha => by rw [g1 a ha, fr a ha]) g2) ls.length 0 (Nat.zero_add _)⟩
theorem kx_finished {post : Option Nat → fh_T → Prop} {mc ms : Nat} (hD : xD w d dl o) (hd4 : w (ad 4) ≠ none) (hd6 : w (ad 6) ≠ none) (hmc : 2 ≤ mc) (hms : 10 ≤ ms) (h : ∀ q w', xE w w' → xO ad w' q (ho_hashO o.2.1 o.2.2, o.2.1, o.2.2) → post (some q) w') : wKXDr_finished post w mc ms d := by
  obtain ⟨d1, d2, f, d3, d4⟩ := hD
  refine ⟨mc - 1, ms - 6, by omega, by omega, fun q1 hq w2 e2 => ?_⟩
  have hE := xE.up hq e2
  have t1 := hE.at d1
  refine ⟨_, ⟨_, t1, rfl⟩, _, ⟨_, t1, rfl⟩, _, ⟨_, t1, rfl⟩, _, ⟨_, t1, rfl⟩, _, ⟨_, t1, rfl⟩, _, ⟨_, t1, rfl⟩, 1, 4, mc - 1 - 1, ms - 6 - 4, by omega, by omega, kx_copyOf (hE.at d3) d2 (Nat.le_refl _) (Nat.le_refl _) (fun q w' g hE2 hq2 g1 g2 => ⟨_, rfl, ?_⟩)⟩
  have nq : q ≠ q1 := fun z => by rw [z, fe e2] at hq2; cases hq2
  have hq0 : w q = none := by rw [fn e2 nq] at hq2; exact hq2
  have g2' : ∀ j, j < o.2.2.length → g j = o.2.2.getD j 0 := fun j hj => (g2 j hj).trans (d4 j hj)
  refine kx_op (n := o.2.1) d2 (hE2.at (fe e2)) g1 g2' (fun w3 k1 k2 => ?_)
  have hE3 : xE w w3 := fun a ha => by
    have na : a ≠ q1 := fun z => ha (by rw [z]; exact hq)
    rw [k1 a na, (hE.tr hE2) a ha]
  exact h q1 w3 hE3 ⟨q, g, k2, by rw [k1 q nq]; exact g1, g2', fun z => hd4 (by rw [← z]; exact hq0), fun z => hd6 (by rw [← z]; exact hq0), d2⟩
end XD
