/-! the law's world: the class's cells and the reference's, apart from one another -/
def mA (h0 : Nat) (ad : Nat → Nat) (q : Nat) : Prop := q = h0 ∨ ∃ k, k < 19 ∧ q = ad k
def lSep (h0 : Nat) (ad : Nat → Nat) (w : fh_T) : Prop := ∀ (q : Nat) (e : fh_E), w q = some e → fh_fz e = false → ¬ mA h0 ad q
def lW (D : va_G) (ca : Nat → Nat) (A : Nat → Prop) (h0 : Nat) (ad : Nat → Nat) (w : fh_T) (u : mS) (H : Heap) : Prop := fh_ok D ca A w H ∧ mW D h0 ad (ca 6) (ca 2) u H ∧ mDs A h0 ad (ca 6) (ca 2) ∧ lSep h0 ad w
def lA1 (w : fh_T) (H : Heap) (q : Nat) : Prop := (∃ e : fh_E, w q = some e ∧ fh_fz e = false) ∨ H.size ≤ q
def lCx (p : Program) (s : State) (m : MethodId) (meth : Method) (c : Code) (D : va_G) (ca : Nat → Nat) (b : Nat) (post : (Nat → Int32) × Nat × Nat) : Prop := lw_At p s m meth c b post.2.1 post.1 ∧ va_K D vwCl (kTy ca) s ∧ fx_N s ∧ kE ca (fun q : Nat => s.heap.size ≤ q) s s.heap
theorem mw_in {h0 : Nat} {ad : Nat → Nat} {cI cL : ClassId} {u : mS} {k : Nat} {q : Nat × va_E} (h : (mw h0 ad cI cL u)[k]? = some q) : mA h0 ad q.1 := by
  have hm := List.mem_of_getElem? h
  simp only [mw, List.mem_cons, List.not_mem_nil, or_false] at hm
  rcases hm with rfl | rfl | rfl | rfl | rfl | rfl | rfl | rfl | rfl | rfl | rfl | rfl | rfl | rfl | rfl | rfl | rfl | rfl | rfl | rfl <;> first | exact Or.inl rfl | exact Or.inr ⟨_, by decide, rfl⟩
section LAW
variable {s : State} {H H1 : Heap} {locs : List Loc} {D : va_G} {ca : Nat → Nat} {h0 : Nat} {ad : Nat → Nat} {w w1 : fh_T} {u u1 : mS}
theorem l_mDs {A : Nat → Prop} (h : lW D ca A h0 ad w u H) : mDs (mA h0 ad) h0 ad (ca 6) (ca 2) := fun u => ⟨(h.2.2.1 u).1, fun _ _ hk => mw_in hk⟩
theorem l_A1 (h : lW D ca (fun q : Nat => s.heap.size ≤ q) h0 ad w u H) (hS : va_S (fun q : Nat => s.heap.size ≤ q) s.heap H locs) {q : Nat} (hq : lA1 w H q) : s.heap.size ≤ q := by
  rcases hq with ⟨e, h1, h2⟩ | h1
  · exact ((h.1 q e h1).2 h2).1
  · exact Nat.le_trans hS.1 h1
theorem l_A2 (h : lW D ca (fun q : Nat => s.heap.size ≤ q) h0 ad w u H) {q : Nat} (hq : mA h0 ad q) : s.heap.size ≤ q := by
  rcases hq with rfl | ⟨k, hk, rfl⟩
  · exact (h.2.2.1 u).2 0 _ rfl
  · have hh : ∀ j : Nat, j < 19 → ∃ q : Nat × va_E, (mw h0 ad (ca 6) (ca 2) u)[j + 1]? = some q ∧ q.1 = ad j := by
      intro j hj
      rcases (show j = 0 ∨ j = 1 ∨ j = 2 ∨ j = 3 ∨ j = 4 ∨ j = 5 ∨ j = 6 ∨ j = 7 ∨ j = 8 ∨ j = 9 ∨ j = 10 ∨ j = 11 ∨ j = 12 ∨ j = 13 ∨ j = 14 ∨ j = 15 ∨ j = 16 ∨ j = 17 ∨ j = 18 by omega) with rfl | rfl | rfl | rfl | rfl | rfl | rfl | rfl | rfl | rfl | rfl | rfl | rfl | rfl | rfl | rfl | rfl | rfl | rfl <;> exact ⟨_, rfl, rfl⟩
    obtain ⟨q, h1, h2⟩ := hh k hk
    have h3 := (h.2.2.1 u).2 (k + 1) q h1
    rw [h2] at h3
    exact h3
theorem l_at (h : lW D ca (fun q : Nat => s.heap.size ≤ q) h0 ad w u H) (hS : va_S (fun q : Nat => s.heap.size ≤ q) s.heap H locs) (hK : va_K D vwCl (kTy ca) s) (hN : fx_N s) (hE : kE ca (fun q : Nat => s.heap.size ≤ q) s s.heap) {U : State} (hU : U.heap = H) (hW : s.WarmedH U.vm) : kB D ca (lA1 w H) w U := by
  refine ⟨fun a e ha => ⟨(h.1 a e ha).1, fun hz => ⟨Or.inl ⟨e, ha, hz⟩, by rw [hU]; exact ((h.1 a e ha).2 hz).2⟩⟩, fun q hq => Or.inr (by rw [← hU]; exact hq), va_K.moved hW.alike hK, hN.warm hW, ?_⟩
  rw [hU]
  have h1 := (hE.kept (fun a h1 h2 => hS.2.1 a h1 h2)).moved hW.alike
  exact ⟨h1.1.narrow (fun q hq => l_A1 h hS hq), h1.2.narrow (fun q hq => l_A1 h hS hq)⟩
theorem l_preV {b ci : Nat} {q : vw_C} {fs : List Value} {av : List Value} (he : w b = some (.inr (ci, fs))) (hc : vwCl[ci]? = some q) (h : lW D ca (fun q : Nat => s.heap.size ≤ q) h0 ad w u H) (hS : va_S (fun q : Nat => s.heap.size ≤ q) s.heap H locs) (hK : va_K D vwCl (kTy ca) s) (hN : fx_N s) (hE : kE ca (fun q : Nat => s.heap.size ≤ q) s s.heap) : PreV s H q.1 b (va_Pc (.ref b :: av) (kB D ca (lA1 w H) w)) av := ⟨k_blind, va_recv hK (fh_one h.1 he rfl) (ci := ci) (q0 := 0) hc rfl, fun _ hU hW => ⟨rfl, l_at h hS hK hN hE hU hW⟩⟩
theorem l_K (hK : va_K D vwCl (kTy ca) s) : va_K D vwCl (mTy (ca 6) (ca 2)) s := hK.sub [6, 2] rfl
theorem l_preM {av : List Value} (h : lW D ca (fun q : Nat => s.heap.size ≤ q) h0 ad w u H) (hK : va_K D vwCl (kTy ca) s) (hN : fx_N s) : PreV s H RXM h0 (va_Pc (.ref h0 :: av) (fxB (mW D h0 ad (ca 6) (ca 2) u) D vwCl (mTy (ca 6) (ca 2)))) av := by
  obtain ⟨I, J, cn, cm, so⟩ := u
  exact fx_preV (m_recv (l_K hK) h.2.1) h.2.1 (l_K hK) hN
theorem l_afterX (h : lW D ca (fun q : Nat => s.heap.size ≤ q) h0 ad w u H) (hS : va_S (fun q : Nat => s.heap.size ≤ q) s.heap H locs) (hB : fh_ok D ca (lA1 w H) w1 H1) (hk : ∀ q : Nat, q < H.size → ¬ lA1 w H q → H1[q]? = H[q]?) : lW D ca (fun q : Nat => s.heap.size ≤ q) h0 ad w1 u H1 := by
  have hlt : ∀ (k : Nat) (q : Nat × va_E), (mw h0 ad (ca 6) (ca 2) u)[k]? = some q → q.1 < H.size := fun k q hq => (h.2.1 k q hq).lt
  have hno : ∀ q : Nat, mA h0 ad q → q < H.size → ¬ lA1 w H q := by
    intro q hq hl h1
    rcases h1 with ⟨e, h2, h3⟩ | h2
    · exact h.2.2.2 q e h2 h3 hq
    · omega
  have hall : ∀ q : Nat, mA h0 ad q → q < H.size := by
    intro q hq
    rcases hq with rfl | ⟨k, hk1, rfl⟩
    · exact hlt 0 _ rfl
    · have hh : ∀ j : Nat, j < 19 → ∃ q : Nat × va_E, (mw h0 ad (ca 6) (ca 2) u)[j + 1]? = some q ∧ q.1 = ad j := by
        intro j hj
        rcases (show j = 0 ∨ j = 1 ∨ j = 2 ∨ j = 3 ∨ j = 4 ∨ j = 5 ∨ j = 6 ∨ j = 7 ∨ j = 8 ∨ j = 9 ∨ j = 10 ∨ j = 11 ∨ j = 12 ∨ j = 13 ∨ j = 14 ∨ j = 15 ∨ j = 16 ∨ j = 17 ∨ j = 18 by omega) with rfl | rfl | rfl | rfl | rfl | rfl | rfl | rfl | rfl | rfl | rfl | rfl | rfl | rfl | rfl | rfl | rfl | rfl | rfl <;> exact ⟨_, rfl, rfl⟩
      obtain ⟨q, h1, h2⟩ := hh k hk1
      rw [← h2]
      exact hlt _ q h1
  refine ⟨fun a e ha => ⟨(hB a e ha).1, fun hz => ⟨l_A1 h hS ((hB a e ha).2 hz).1, ((hB a e ha).2 hz).2⟩⟩, fun k q hq => (h.2.1 k q hq).kept (hk q.1 (hlt k q hq) (hno q.1 (mw_in hq) (hlt k q hq))), h.2.2.1, fun q e hq hz hm => ?_⟩
  exact hno q hm (hall q hm) ((hB q e hq).2 hz).1
theorem l_afterM {A : Nat → Prop} (h : lW D ca A h0 ad w u H) (hB : mW D h0 ad (ca 6) (ca 2) u1 H1) (hk : ∀ q : Nat, q < H.size → ¬ mA h0 ad q → H1[q]? = H[q]?) : lW D ca A h0 ad w u1 H1 :=
  ⟨fun a e ha => ⟨(h.1 a e ha).1, fun hz => ⟨((h.1 a e ha).2 hz).1, ((h.1 a e ha).2 hz).2.kept (hk a ((h.1 a e ha).2 hz).2.lt (h.2.2.2 a e ha hz))⟩⟩, hB, h.2.2.1, h.2.2.2⟩
end LAW
theorem l_out0_16 {x : Int32} (h0 : ¬ x = 0) (h1 : ¬ x = 1) (h2 : ¬ x = 2) (h3 : ¬ x = 3) (h4 : ¬ x = 4) (h5 : ¬ x = 5) (h6 : ¬ x = 6) (h7 : ¬ x = 7) (h8 : ¬ x = 8) (h9 : ¬ x = 9) (h10 : ¬ x = 10) (h11 : ¬ x = 11) (h12 : ¬ x = 12) (h13 : ¬ x = 13) (h14 : ¬ x = 14) (h15 : ¬ x = 15) (h16 : ¬ x = 16) : x.toInt < 0 ∨ 16 < x.toInt := by
  have e : ∀ k : Int32, ¬ x = k → ¬ x.toInt = k.toInt := fun k h q => h (Int32.toInt_inj.mp q)
  have a0 : ¬ x.toInt = 0 := e 0 h0
  have a1 : ¬ x.toInt = 1 := e 1 h1
  have a2 : ¬ x.toInt = 2 := e 2 h2
  have a3 : ¬ x.toInt = 3 := e 3 h3
  have a4 : ¬ x.toInt = 4 := e 4 h4
  have a5 : ¬ x.toInt = 5 := e 5 h5
  have a6 : ¬ x.toInt = 6 := e 6 h6
  have a7 : ¬ x.toInt = 7 := e 7 h7
  have a8 : ¬ x.toInt = 8 := e 8 h8
  have a9 : ¬ x.toInt = 9 := e 9 h9
  have a10 : ¬ x.toInt = 10 := e 10 h10
  have a11 : ¬ x.toInt = 11 := e 11 h11
  have a12 : ¬ x.toInt = 12 := e 12 h12
  have a13 : ¬ x.toInt = 13 := e 13 h13
  have a14 : ¬ x.toInt = 14 := e 14 h14
  have a15 : ¬ x.toInt = 15 := e 15 h15
  have a16 : ¬ x.toInt = 16 := e 16 h16
  omega
