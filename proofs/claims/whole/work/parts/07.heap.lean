/-! a world as a function from addresses to cells; the kit's rows over lists serve it by fh_put, fh_new, fh_one -/
/-- a cell: an array of a kind (by number) and its contents, or an object of a class (by its number in vwCl) and its fields; kind 4 is a mark for the list's empty array, which lies below and never changes -/
abbrev fh_E : Type := (Nat × vp_A) ⊕ (Nat × List Value)
abbrev fh_T : Type := Nat → Option fh_E
def fh_cv (ca : Nat → Nat) (e : fh_E) : va_E := match e with
  | .inl a => .inl (ca a.1, a.2)
  | .inr o => .inr o
def fh_fz (e : fh_E) : Bool := match e with
  | .inl a => a.1 == 4
  | .inr _ => false
def fh_up (w : fh_T) (a : Nat) (e : fh_E) : fh_T := fun b => if b = a then some e else w b
def fh_ok (D : va_G) (ca : Nat → Nat) (A : Nat → Prop) (w : fh_T) (H : Heap) : Prop := ∀ (a : Nat) (e : fh_E), w a = some e → (fh_fz e = true → a = ca 5) ∧ (fh_fz e = false → A a ∧ va_at D vwCl (a, fh_cv ca e) H)
/-- field k of the object a of class ci is v -/
def fh_g (w : fh_T) (a ci k : Nat) (v : Value) : Prop := ∃ fs : List Value, w a = some (.inr (ci, fs)) ∧ fs[k]? = some v
/-- the length of an array of objects, the list's empty one among them -/
def fh_len (w : fh_T) (a n : Nat) : Prop := (∃ z, w a = some (.inl (3, n, z))) ∨ (n = 0 ∧ ∃ z, w a = some (.inl (4, 0, z)))
theorem fh_up_s (w : fh_T) (a : Nat) (e : fh_E) : fh_up w a e a = some e := by simp [fh_up]
theorem fh_up_n {w : fh_T} {a b : Nat} {e : fh_E} (h : b ≠ a) : fh_up w a e b = w b := by simp [fh_up, h]
section FHL
variable {ca : Nat → Nat}
def fh_one1 (ca : Nat → Nat) (w : fh_T) (a : Nat) : Option (Nat × va_E) := (w a).bind (fun e => if fh_fz e then none else some (a, fh_cv ca e))
theorem fh_one1_iff {w : fh_T} {a b : Nat} {e : va_E} : fh_one1 ca w a = some (b, e) ↔ b = a ∧ ∃ e0 : fh_E, w a = some e0 ∧ fh_fz e0 = false ∧ fh_cv ca e0 = e := by
  unfold fh_one1
  cases hw : w a with
  | none => simp
  | some x =>
    cases hz : fh_fz x with
    | true => simp [hz]
    | false =>
      simp only [Option.bind_some, hz, Bool.false_eq_true, if_false, Option.some.injEq, Prod.mk.injEq]
      constructor
      · rintro ⟨h1, h2⟩
        exact ⟨h1.symm, x, rfl, hz, h2⟩
      · rintro ⟨h1, e0, h2, -, h3⟩
        subst h2
        exact ⟨h1.symm, h3⟩
def fh_list (ca : Nat → Nat) (w : fh_T) (n : Nat) : va_W := (List.range n).filterMap (fh_one1 ca w)
theorem fh_list_succ (w : fh_T) (n : Nat) : fh_list ca w (n + 1) = fh_list ca w n ++ (fh_one1 ca w n).toList := by
  unfold fh_list
  rw [List.range_succ, List.filterMap_append]
  cases h : fh_one1 ca w n <;> simp [h]
theorem fh_list_mem {w : fh_T} {n a : Nat} {e : va_E} : (a, e) ∈ fh_list ca w n ↔ a < n ∧ ∃ e0 : fh_E, w a = some e0 ∧ fh_fz e0 = false ∧ fh_cv ca e0 = e := by
  unfold fh_list
  rw [List.mem_filterMap]
  constructor
  · rintro ⟨b, hb, h⟩
    obtain ⟨h1, h2⟩ := fh_one1_iff.mp h
    subst h1
    exact ⟨List.mem_range.mp hb, h2⟩
  · rintro ⟨h1, h2⟩
    exact ⟨a, List.mem_range.mpr h1, fh_one1_iff.mpr ⟨rfl, h2⟩⟩
theorem fh_list_D {A : Nat → Prop} {w : fh_T} (hA : ∀ (a : Nat) (e : fh_E), w a = some e → fh_fz e = false → A a) : ∀ n : Nat, va_D A (fh_list ca w n)
  | 0 => ⟨fun i j p q h => by simp [fh_list] at h, fun k q h => by simp [fh_list] at h⟩
  | n + 1 => by
    rw [fh_list_succ]
    cases h : fh_one1 ca w n with
    | none => simpa using fh_list_D hA n
    | some x =>
      obtain ⟨b, e⟩ := x
      obtain ⟨hb, e0, h1, h2, h3⟩ := fh_one1_iff.mp h
      subst hb
      refine va_D.app (fh_list_D hA b) ⟨fun i j p q hi hj _ => ?_, fun k q hk => ?_⟩ (fun i j p q hi hj hpq => ?_)
      · have h1 := (List.getElem?_eq_some_iff.mp hi).1
        have h2 := (List.getElem?_eq_some_iff.mp hj).1
        simp at h1 h2
        omega
      · have hm := List.mem_of_getElem? hk
        simp at hm
        subst hm
        exact hA b e0 h1 h2
      · obtain ⟨pa, pe⟩ := p
        have h1 := (fh_list_mem.mp (List.mem_of_getElem? hi)).1
        have hm := List.mem_of_getElem? hj
        simp at hm
        subst hm
        simp at hpq
        omega
end FHL
section FHW
variable {D : va_G} {ca : Nat → Nat} {A : Nat → Prop} {w : fh_T} {H : Heap}
theorem fh_one (h : fh_ok D ca A w H) {a : Nat} {e : fh_E} (ha : w a = some e) (hz : fh_fz e = false) : va_P D vwCl [(a, fh_cv ca e)] H := by
  intro k q hq
  have h1 := List.mem_of_getElem? hq
  simp at h1
  subst h1
  exact ((h a e ha).2 hz).2
theorem fh_all (h : fh_ok D ca A w H) : va_P D vwCl (fh_list ca w H.size) H ∧ va_D A (fh_list ca w H.size) ∧ ∀ (b : Nat) (eb : fh_E), w b = some eb → fh_fz eb = false → ∃ k : Nat, (fh_list ca w H.size)[k]? = some (b, fh_cv ca eb) := by
  refine ⟨fun k q hq => ?_, fh_list_D (fun a e ha hz => ((h a e ha).2 hz).1) _, fun b eb hb hz => ?_⟩
  · obtain ⟨a, e⟩ := q
    obtain ⟨-, e0, h1, h2, h3⟩ := fh_list_mem.mp (List.mem_of_getElem? hq)
    rw [← h3]
    exact ((h a e0 h1).2 h2).2
  · have hl : b < H.size := ((h b eb hb).2 hz).2.lt
    exact List.getElem?_of_mem (fh_list_mem.mpr ⟨hl, eb, hb, hz, rfl⟩)
theorem fh_put (h : fh_ok D ca A w H) {a : Nat} {e0 : fh_E} (ha : w a = some e0) (hz0 : fh_fz e0 = false) : ∃ (ws : va_W) (q0 : Nat), ws[q0]? = some (a, fh_cv ca e0) ∧ va_P D vwCl ws H ∧ va_D A ws ∧ (∀ (b : Nat) (eb : fh_E), w b = some eb → fh_fz eb = false → ∃ k : Nat, ws[k]? = some (b, fh_cv ca eb)) ∧ ∀ (e1 : fh_E) (H1 : Heap), fh_fz e1 = false → va_P D vwCl (ws.set q0 (a, fh_cv ca e1)) H1 → fh_ok D ca A (fh_up w a e1) H1 := by
  obtain ⟨hP, hD, hin⟩ := fh_all h
  obtain ⟨q0, hq0⟩ := hin a e0 ha hz0
  refine ⟨_, q0, hq0, hP, hD, hin, fun e1 H1 hz1 h1 b eb hb => ?_⟩
  by_cases hba : b = a
  · subst hba
    rw [fh_up_s] at hb
    cases hb
    refine ⟨fun q => absurd (hz1.symm.trans q) (by decide), fun _ => ⟨((h b e0 ha).2 hz0).1, h1 q0 _ ?_⟩⟩
    rw [List.getElem?_set_self (List.getElem?_eq_some_iff.mp hq0).1]
  · rw [fh_up_n hba] at hb
    refine ⟨(h b eb hb).1, fun hz => ?_⟩
    obtain ⟨k, hk⟩ := hin b eb hb hz
    refine ⟨((h b eb hb).2 hz).1, h1 k _ ?_⟩
    have hne : q0 ≠ k := by
      intro e
      subst e
      rw [hq0] at hk
      simp at hk
      exact hba hk.1.symm
    rw [List.getElem?_set_ne hne]
    exact hk
theorem fh_newp (h : fh_ok D ca A w H) : ∃ ws : va_W, va_P D vwCl ws H ∧ va_D A ws ∧ (∀ (b : Nat) (eb : fh_E), w b = some eb → fh_fz eb = false → ∃ k : Nat, ws[k]? = some (b, fh_cv ca eb)) ∧ ∀ (q : Nat) (e1 : fh_E) (H1 : Heap), fh_fz e1 = false → ca 5 ≠ q → va_P D vwCl (ws ++ [(q, fh_cv ca e1)]) H1 → va_D A (ws ++ [(q, fh_cv ca e1)]) → fh_ok D ca A (fh_up w q e1) H1 ∧ w q = none := by
  obtain ⟨hP, hD, hin⟩ := fh_all h
  refine ⟨_, hP, hD, hin, fun q e1 H1 hz1 hne5 h1 h2 => ?_⟩
  have hlast : (fh_list ca w H.size ++ [(q, fh_cv ca e1)])[(fh_list ca w H.size).length]? = some (q, fh_cv ca e1) := by
    rw [List.getElem?_append_right (Nat.le_refl _)]
    simp
  have hold : ∀ (b : Nat) (eb : fh_E), w b = some eb → fh_fz eb = false → ∃ k : Nat, k < (fh_list ca w H.size).length ∧ (fh_list ca w H.size ++ [(q, fh_cv ca e1)])[k]? = some (b, fh_cv ca eb) := by
    intro b eb hb hz
    obtain ⟨k, hk⟩ := hin b eb hb hz
    have hl := (List.getElem?_eq_some_iff.mp hk).1
    exact ⟨k, hl, by rw [List.getElem?_append_left hl]; exact hk⟩
  have hno : w q = none := by
    cases hq : w q with
    | none => rfl
    | some eb =>
      cases hz : fh_fz eb with
      | true => exact absurd ((h q eb hq).1 hz).symm hne5
      | false =>
        obtain ⟨k, hl, hk⟩ := hold q eb hq hz
        have := h2.1 k _ _ _ hk hlast rfl
        omega
  refine ⟨fun b eb hb => ?_, hno⟩
  by_cases hbq : b = q
  · subst hbq
    rw [fh_up_s] at hb
    cases hb
    exact ⟨fun q => absurd (hz1.symm.trans q) (by decide), fun _ => ⟨h2.2 _ _ hlast, h1 _ _ hlast⟩⟩
  · rw [fh_up_n hbq] at hb
    refine ⟨(h b eb hb).1, fun hz => ?_⟩
    obtain ⟨k, -, hk⟩ := hold b eb hb hz
    exact ⟨((h b eb hb).2 hz).1, h1 k _ hk⟩
theorem fh_new (h : fh_ok D ca A w H) : ∃ ws : va_W, va_P D vwCl ws H ∧ va_D A ws ∧ ∀ (q : Nat) (e1 : fh_E) (H1 : Heap), fh_fz e1 = false → ca 5 ≠ q → va_P D vwCl (ws ++ [(q, fh_cv ca e1)]) H1 → va_D A (ws ++ [(q, fh_cv ca e1)]) → fh_ok D ca A (fh_up w q e1) H1 ∧ w q = none := by
  obtain ⟨ws, h1, h2, -, h3⟩ := fh_newp h
  exact ⟨ws, h1, h2, h3⟩
end FHW
/-- the list's empty array and the static that holds it -/
def kE (ca : Nat → Nat) (A : Nat → Prop) (U : State) (H : Heap) : Prop := va_T (.object "java/lang/Object") (ca 5) 0 (fun _ => .null) A U H ∧ va_Z "java/util/ArrayList" "DEFAULTCAPACITY_EMPTY_ELEMENTDATA" "[Ljava/lang/Object;" (.ref (ca 5)) A U H
theorem kE.kept {ca : Nat → Nat} {A : Nat → Prop} {U : State} {H H1 : Heap} (h : kE ca A U H) (hq : ∀ a : Nat, a < H.size → ¬ A a → H1[a]? = H[a]?) : kE ca A U H1 := ⟨h.1.kept hq, h.2.kept hq⟩
theorem kE.moved {ca : Nat → Nat} {A : Nat → Prop} {u U : State} {H : Heap} (hvm : u.vm.Alike U.vm) (h : kE ca A u H) : kE ca A U H := ⟨h.1.moved hvm, h.2.moved hvm⟩
theorem kE.out {ca : Nat → Nat} {A : Nat → Prop} {U : State} {H : Heap} (h : kE ca A U H) : ¬ A (ca 5) := va_T.out h.1
/-- kinds of arrays: Member[], Replica[], long[], Object[], (the mark), (no kind), int[] -/
abbrev kTy (ca : Nat → Nat) : List (ClassId × FieldType) := [(ca 0, .object "HashLinkedWeb$Member"), (ca 1, .object "HashLinkedWeb$Replica"), (ca 2, .long), (ca 3, .object "java/lang/Object"), (ca 3, .object "java/lang/Object"), (ca 3, .object "java/lang/Object"), (ca 6, .int)]
/-- a contract's start over this world -/
def kB (D : va_G) (ca : Nat → Nat) (A : Nat → Prop) (w : fh_T) : State → Prop := fun U => fh_ok D ca A w U.heap ∧ (∀ q : Nat, U.heap.size ≤ q → A q) ∧ va_K D vwCl (kTy ca) U ∧ fx_N U ∧ kE ca A U U.heap
def kCx (p : Program) (s : State) (m : MethodId) (args : Array Value) (meth : Method) (c : Code) (D : va_G) (ca : Nat → Nat) (A : Nat → Prop) (own : String) (cc : ByteArray) (nL : Nat) (ret : Option FieldType) (nm : String) : Prop := p.tables.exec = Jvm.exec ∧ c.code = cc ∧ meth.sig.returnType = ret ∧ c.maxLocals = nL ∧ s.vm.findClass own = some m.cls ∧ (∀ w ∈ lg_tbl, w.before args s = true) ∧ meth.locks = false ∧ va_K D vwCl (kTy ca) s ∧ fx_N s ∧ kE ca A s s.heap ∧ (∀ q : Nat, s.heap.size ≤ q → A q) ∧ meth.name = nm
theorem k_blind {D : va_G} {ca : Nat → Nat} {A : Nat → Prop} {w : fh_T} {av : List Value} : FrameBlind (va_Pc av (kB D ca A w)) := fun a U g mk q => ⟨q.1, q.2.1, q.2.2.1, va_K.moved (u := U) (U := U.calling g mk a) (Vm.Alike.refl U.vm) q.2.2.2.1, fx_N.same (u := U) (U := U.calling g mk a) rfl q.2.2.2.2.1, kE.moved (u := U) (U := U.calling g mk a) (Vm.Alike.refl U.vm) q.2.2.2.2.2⟩
section KPRE
variable {s : State} {H H0 : Heap} {locs : List Loc} {C : String} {b : Nat} {av : List Value} {D : va_G} {ca : Nat → Nat} {A : Nat → Prop} {w : fh_T}
theorem k_at (hP : fh_ok D ca A w H) (hS : va_S A s.heap H locs) (hA : ∀ q : Nat, s.heap.size ≤ q → A q) (hK : va_K D vwCl (kTy ca) s) (hN : fx_N s) (hE : kE ca A s s.heap) {U : State} (hU : U.heap = H) (hW : s.WarmedH U.vm) : kB D ca A w U := ⟨by rw [hU]; exact hP, fun q h => hA q (Nat.le_trans hS.1 (by rw [← hU]; exact h)), va_K.moved hW.alike hK, hN.warm hW, by rw [hU]; exact (hE.kept (fun a h1 h2 => hS.2.1 a h1 h2)).moved hW.alike⟩
theorem k_preS (hP : fh_ok D ca A w H) (hS : va_S A s.heap H locs) (hA : ∀ q : Nat, s.heap.size ≤ q → A q) (hK : va_K D vwCl (kTy ca) s) (hN : fx_N s) (hE : kE ca A s s.heap) : PreS s H (va_Pc av (kB D ca A w)) av := ⟨k_blind, fun _ hU hW => ⟨rfl, k_at hP hS hA hK hN hE hU hW⟩⟩
theorem k_preV {ci : Nat} {q : vw_C} {fs : List Value} (he : w b = some (.inr (ci, fs))) (hc : vwCl[ci]? = some q) (hP : fh_ok D ca A w H) (hS : va_S A s.heap H locs) (hA : ∀ q : Nat, s.heap.size ≤ q → A q) (hK : va_K D vwCl (kTy ca) s) (hN : fx_N s) (hE : kE ca A s s.heap) : PreV s H q.1 b (va_Pc (.ref b :: av) (kB D ca A w)) av := ⟨k_blind, va_recv hK (fh_one hP he rfl) (ci := ci) (q0 := 0) hc rfl, fun _ hU hW => ⟨rfl, k_at hP hS hA hK hN hE hU hW⟩⟩
end KPRE
section KROWS
variable {p : Program} {l : Launch} {e : Env} {R : Room} {s : State} {m : MethodId} {args : Array Value} {below : List Frame} {meth : Method} {c : Code} {H H0 : Heap} {locs : List Loc} {cells slots : Nat} {Q : State → Prop} {cc : ByteArray} {pc : Nat} {ls : Array Slot} {rest : List Value} {D : va_G} {ca : Nat → Nat} {A : Nat → Prop} {w : fh_T}
theorem kla (hx : p.tables.exec = Jvm.exec) (hb : c.code = cc) (hK : va_K D vwCl (kTy ca) s) (hP : fh_ok D ca A w H) {a n : Nat} {f : Nat → Int64} (ha : w a = some (.inl (2, n, .inr (.inl f)))) {i : Int32} (hin : vp_in i n) (hdg : decode cc pc = .ok (.laload, 1)) (kk : W p l e R s m args below meth c H locs cells slots Q (F0 m (pc + 1) ls (.long (f i.toNatClampNeg) :: rest))) : W p l e R s m args below meth c H locs cells slots Q (F0 m pc ls (.int i :: .ref a :: rest)) := va_lald hx hb hK (fh_one hP ha rfl) 0 2 rfl rfl hin hdg kk
theorem kls (hx : p.tables.exec = Jvm.exec) (hb : c.code = cc) (hK : va_K D vwCl (kTy ca) s) (hP : fh_ok D ca A w H) (hS : va_S A H0 H locs) {a n : Nat} {f : Nat → Int64} (ha : w a = some (.inl (2, n, .inr (.inl f)))) {i : Int32} {x : Int64} (hin : vp_in i n) (hdg : decode cc pc = .ok (.lastore, 1)) (kk : ∀ (H1 : Heap) (locs1 : List Loc), fh_ok D ca A (fh_up w a (.inl (2, n, .inr (.inl (vp_updL f i.toNatClampNeg x))))) H1 → va_S A H0 H1 locs1 → W p l e R s m args below meth c H1 locs1 cells slots Q (F0 m (pc + 1) ls rest)) : W p l e R s m args below meth c H locs cells slots Q (F0 m pc ls (.long x :: .int i :: .ref a :: rest)) := by
  obtain ⟨ws, q0, h1, h2, h3, -, h4⟩ := fh_put hP ha rfl
  exact va_last hx hb hK h2 h3 hS q0 2 h1 rfl hin hdg (fun H1 locs1 g1 _ g3 => kk H1 locs1 (h4 _ _ rfl g1) g3)
theorem kaa (k : Nat) {C : String} (ht : (kTy ca)[k]? = some (ca k, .object C)) (hk4 : (k == 4) = false) (hx : p.tables.exec = Jvm.exec) (hb : c.code = cc) (hK : va_K D vwCl (kTy ca) s) (hP : fh_ok D ca A w H) {a n y : Nat} {f : Nat → Option Nat} (ha : w a = some (.inl (k, n, .inr (.inr (.inr (.inr f)))))) {i : Int32} (hin : vp_in i n) (hy : f i.toNatClampNeg = some y) (hdg : decode cc pc = .ok (.aaload, 1)) (kk : W p l e R s m args below meth c H locs cells slots Q (F0 m (pc + 1) ls (.ref y :: rest))) : W p l e R s m args below meth c H locs cells slots Q (F0 m pc ls (.int i :: .ref a :: rest)) := va_aldq hx hb hK (fh_one hP ha hk4) 0 k rfl ht hin hdg (by rw [hy]; exact kk)
theorem kas (k : Nat) {ci : Nat} {r : vw_C} (hc : vwCl[ci]? = some r) (ht : (kTy ca)[k]? = some (ca k, .object r.1)) (hk4 : (k == 4) = false) (hx : p.tables.exec = Jvm.exec) (hb : c.code = cc) (hK : va_K D vwCl (kTy ca) s) (hP : fh_ok D ca A w H) (hS : va_S A H0 H locs) {a n v : Nat} {fs : List Value} {f : Nat → Option Nat} (ha : w a = some (.inl (k, n, .inr (.inr (.inr (.inr f)))))) (hv : w v = some (.inr (ci, fs))) {i : Int32} (hin : vp_in i n) (hdg : decode cc pc = .ok (.aastore, 1)) (kk : ∀ (H1 : Heap) (locs1 : List Loc), fh_ok D ca A (fh_up w a (.inl (k, n, .inr (.inr (.inr (.inr (va_up f i.toNatClampNeg (some v)))))))) H1 → va_S A H0 H1 locs1 → W p l e R s m args below meth c H1 locs1 cells slots Q (F0 m (pc + 1) ls rest)) : W p l e R s m args below meth c H locs cells slots Q (F0 m pc ls (.ref v :: .int i :: .ref a :: rest)) := by
  obtain ⟨ws, q0, h1, h2, h3, h5, h4⟩ := fh_put hP ha hk4
  obtain ⟨qk, hqk⟩ := h5 v _ hv rfl
  exact va_astq hx hb hK h2 h3 hS q0 k qk ci h1 ht hqk hc hin hdg (fun H1 locs1 g1 _ g3 => kk H1 locs1 (h4 _ _ hk4 g1) g3)
theorem kan (k : Nat) {C : String} (ht : (kTy ca)[k]? = some (ca k, .object C)) (hk4 : (k == 4) = false) (hx : p.tables.exec = Jvm.exec) (hb : c.code = cc) (hK : va_K D vwCl (kTy ca) s) (hP : fh_ok D ca A w H) (hS : va_S A H0 H locs) {a n : Nat} {f : Nat → Option Nat} (ha : w a = some (.inl (k, n, .inr (.inr (.inr (.inr f)))))) {i : Int32} (hin : vp_in i n) (hdg : decode cc pc = .ok (.aastore, 1)) (kk : ∀ (H1 : Heap) (locs1 : List Loc), fh_ok D ca A (fh_up w a (.inl (k, n, .inr (.inr (.inr (.inr (va_up f i.toNatClampNeg none))))))) H1 → va_S A H0 H1 locs1 → W p l e R s m args below meth c H1 locs1 cells slots Q (F0 m (pc + 1) ls rest)) : W p l e R s m args below meth c H locs cells slots Q (F0 m pc ls (.null :: .int i :: .ref a :: rest)) := by
  obtain ⟨ws, q0, h1, h2, h3, h5, h4⟩ := fh_put hP ha hk4
  exact va_astqN hx hb hK h2 h3 hS q0 k h1 ht hin hdg (fun H1 locs1 g1 _ g3 => kk H1 locs1 (h4 _ _ hk4 g1) g3)
theorem kal (k : Nat) {ty : FieldType} (ht : (kTy ca)[k]? = some (ca k, ty)) (hk4 : (k == 4) = false) (hx : p.tables.exec = Jvm.exec) (hb : c.code = cc) (hK : va_K D vwCl (kTy ca) s) (hP : fh_ok D ca A w H) {a n : Nat} {z : (Nat → Int32) ⊕ (Nat → Int64) ⊕ (Nat → UInt32) ⊕ (Nat → UInt64) ⊕ (Nat → Option Nat)} (ha : w a = some (.inl (k, n, z))) (hdg : decode cc pc = .ok (.arraylength, 1)) (kk : W p l e R s m args below meth c H locs cells slots Q (F0 m (pc + 1) ls (.int (nI n) :: rest))) : W p l e R s m args below meth c H locs cells slots Q (F0 m pc ls (.ref a :: rest)) := va_alen hx hb hK (fh_one hP ha hk4) 0 k rfl ht rfl hdg kk
theorem kalO (hx : p.tables.exec = Jvm.exec) (hb : c.code = cc) (hK : va_K D vwCl (kTy ca) s) (hE : kE ca A s s.heap) (hS : va_S A s.heap H locs) (hP : fh_ok D ca A w H) {a n : Nat} (ha : fh_len w a n) (hdg : decode cc pc = .ok (.arraylength, 1)) (kk : W p l e R s m args below meth c H locs cells slots Q (F0 m (pc + 1) ls (.int (nI n) :: rest))) : W p l e R s m args below meth c H locs cells slots Q (F0 m pc ls (.ref a :: rest)) := by
  rcases ha with ⟨z, ha⟩ | ⟨rfl, z, ha⟩
  · exact kal 3 rfl rfl hx hb hK hP ha hdg kk
  · have h5 := (hP a _ ha).1 rfl
    subst h5
    exact va_tlen hx hb hE.1 hS rfl hdg kk
theorem kgs {own : String} {index : Nat} (hx : p.tables.exec = Jvm.exec) (hb : c.code = cc) (hown : s.vm.findClass own = some m.cls) (hlink : (Cond.fieldLink own index "java/util/ArrayList" "DEFAULTCAPACITY_EMPTY_ELEMENTDATA" "[Ljava/lang/Object;").before args s = true) (hE : kE ca A s s.heap) (hS : va_S A s.heap H locs) (hP : fh_ok D ca A w H) {a : Nat} {z : (Nat → Int32) ⊕ (Nat → Int64) ⊕ (Nat → UInt32) ⊕ (Nat → UInt64) ⊕ (Nat → Option Nat)} (ha : w a = some (.inl (4, 0, z))) (hdg : decode cc pc = .ok (.getstatic index, 3)) (kk : W p l e R s m args below meth c H locs cells slots Q (F0 m (pc + 3) ls (.ref a :: rest))) : W p l e R s m args below meth c H locs cells slots Q (F0 m pc ls rest) := by
  have h5 := (hP a _ ha).1 rfl
  subst h5
  exact va_gets hx hb hE.2 hS hown hlink (fun _ h => h) hdg kk
end KROWS
