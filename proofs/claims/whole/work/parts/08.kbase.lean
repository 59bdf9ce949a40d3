theorem fx_goodS2 {own : String} {index : Nat} {y : MethodName} {bytes : ByteArray} {n : Nat} {ret : Option FieldType} (h1 : Cond.methodLink own index y ∈ lg_tbl) (h2 : Cond.static y ∈ lg_tbl) (h4 : Cond.initialized y.cls ∈ lg_tbl) (h5 : Cond.code y bytes n ret ∈ lg_tbl) : GoodIn lg_tbl (va_wsS own index y (.code y bytes n ret :: lg_tbl)) := by
  refine fx_in (fun w hw => ?_)
  unfold va_wsS at hw
  rcases List.mem_append.mp hw with hw | hw
  · simp only [List.mem_cons, List.not_mem_nil, or_false] at hw
    rcases hw with rfl | rfl | rfl <;> assumption
  · rcases List.mem_cons.mp hw with rfl | hw
    · exact h5
    · exact hw
/-! more rows over the function world: new arrays, copies, casts, stores into arrays of objects -/
section KNEW
variable {p : Program} {l : Launch} {e : Env} {R : Room} {s : State} {m : MethodId} {args : Array Value} {below : List Frame} {meth : Method} {c : Code} {H H0 : Heap} {locs : List Loc} {cells slots : Nat} {Q : State → Prop} {cc : ByteArray} {pc : Nat} {ls : Array Slot} {rest : List Value} {D : va_G} {ca : Nat → Nat} {A : Nat → Prop} {w : fh_T}
theorem k_ne5 {ws : va_W} {q : Nat} {x : va_E} (hE : kE ca A s s.heap) (h : va_D A (ws ++ [(q, x)])) : ca 5 ≠ q := by
  intro e
  refine hE.out ?_
  rw [e]
  exact h.2 ws.length (q, x) (by rw [List.getElem?_append_right (Nat.le_refl _)]; simp)
theorem klnew (hx : p.tables.exec = Jvm.exec) (hb : c.code = cc) (hts : ∀ w ∈ lg_tbl, w.before args s = true) (hK : va_K D vwCl (kTy ca) s) (hE : kE ca A s s.heap) (hP : fh_ok D ca A w H) (hS : va_S A H0 H locs) (hA : ∀ q : Nat, H0.size ≤ q → A q) {n : Int32} {N' : Nat} (hn : ¬ n < 0) (hN' : n.toNatClampNeg = N') (hbytes : N' * componentBytes .long ≤ 536870912) (hc : cells + 1 ≤ R.cells) (hs : slots + N' ≤ R.slots) (hdg : decode cc pc = .ok (.newarray .long, 2)) (kk : ∀ (q : Nat) (H1 : Heap), w q = none → fh_ok D ca A (fh_up w q (.inl (2, N', .inr (.inl (fun _ => 0))))) H1 → va_S A H0 H1 locs → W p l e R s m args below meth c H1 locs (cells + 1) (slots + N') Q (F0 m (pc + 2) ls (.ref q :: rest))) : W p l e R s m args below meth c H locs cells slots Q (F0 m pc ls (.int n :: rest)) := by
  obtain ⟨ws, h1, h2, h3⟩ := fh_new hP
  have hv : ∀ cA : ClassId, vp_cell cA (N', .inr (.inl (fun _ => 0))) = arrV cA N' (fun _ => defaultValue .long) := fun _ => rfl
  refine va_newa (atype := .long) (ty := .long) (a0 := (N', .inr (.inl (fun _ => 0)))) hx hb (hts (.arrayClass .long) (fx_m (by decide +kernel))) rfl hK h1 h2 hS hA hv hn hN' hbytes hc hs hdg (fun q cA H1 g1 g2 g3 g4 => ?_)
  have f1 : s.vm.findClass ("[" ++ FieldType.long.toString) = some cA := (g1.2 7 (cA, .long) rfl).2
  have f2 : s.vm.findClass ("[" ++ FieldType.long.toString) = some (ca 2) := (hK.2 2 (ca 2, .long) rfl).2
  have e1 : cA = ca 2 := Option.some.inj (f1.symm.trans f2)
  subst e1
  have h5 := h3 q (.inl (2, N', .inr (.inl (fun _ => 0)))) H1 rfl (k_ne5 hE g3) g2 g3
  exact kk q H1 h5.2 h5.1 g4
theorem kinew (hx : p.tables.exec = Jvm.exec) (hb : c.code = cc) (hts : ∀ w ∈ lg_tbl, w.before args s = true) (hK : va_K D vwCl (kTy ca) s) (hE : kE ca A s s.heap) (hP : fh_ok D ca A w H) (hS : va_S A H0 H locs) (hA : ∀ q : Nat, H0.size ≤ q → A q) {n : Int32} {N' : Nat} (hn : ¬ n < 0) (hN' : n.toNatClampNeg = N') (hbytes : N' * componentBytes .int ≤ 536870912) (hc : cells + 1 ≤ R.cells) (hs : slots + N' ≤ R.slots) (hdg : decode cc pc = .ok (.newarray .int, 2)) (kk : ∀ (q : Nat) (H1 : Heap), w q = none → fh_ok D ca A (fh_up w q (.inl (6, N', .inl (fun _ => 0)))) H1 → va_S A H0 H1 locs → W p l e R s m args below meth c H1 locs (cells + 1) (slots + N') Q (F0 m (pc + 2) ls (.ref q :: rest))) : W p l e R s m args below meth c H locs cells slots Q (F0 m pc ls (.int n :: rest)) := by
  obtain ⟨ws, h1, h2, h3⟩ := fh_new hP
  have hv : ∀ cA : ClassId, vp_cell cA (N', .inl (fun _ => 0)) = arrV cA N' (fun _ => defaultValue .int) := fun _ => rfl
  refine va_newa (atype := .int) (ty := .int) (a0 := (N', .inl (fun _ => 0))) hx hb (hts (.arrayClass .int) (fx_m (by decide +kernel))) rfl hK h1 h2 hS hA hv hn hN' hbytes hc hs hdg (fun q cA H1 g1 g2 g3 g4 => ?_)
  have f1 : s.vm.findClass ("[" ++ FieldType.int.toString) = some cA := (g1.2 7 (cA, .int) rfl).2
  have f2 : s.vm.findClass ("[" ++ FieldType.int.toString) = some (ca 6) := (hK.2 6 (ca 6, .int) rfl).2
  have e1 : cA = ca 6 := Option.some.inj (f1.symm.trans f2)
  subst e1
  have h5 := h3 q (.inl (6, N', .inl (fun _ => 0))) H1 rfl (k_ne5 hE g3) g2 g3
  exact kk q H1 h5.2 h5.1 g4
theorem kqnew (k : Nat) {C : String} (ht : (kTy ca)[k]? = some (ca k, .object C)) (hk4 : (k == 4) = false) {own : String} {index : Nat} (hx : p.tables.exec = Jvm.exec) (hb : c.code = cc) (hown : s.vm.findClass own = some m.cls) (hlink : (Cond.classLink own index C).before args s = true) (hover : va_AO C s) (hK : va_K D vwCl (kTy ca) s) (hE : kE ca A s s.heap) (hP : fh_ok D ca A w H) (hS : va_S A H0 H locs) (hA : ∀ q : Nat, H0.size ≤ q → A q) {n : Int32} {N' : Nat} (hn : ¬ n < 0) (hN' : n.toNatClampNeg = N') (hbytes : N' * 4 ≤ 536870912) (hc : cells + 1 ≤ R.cells) (hs : slots + N' ≤ R.slots) (hdg : decode cc pc = .ok (.anewarray index, 3)) (kk : ∀ (q : Nat) (H1 : Heap), w q = none → fh_ok D ca A (fh_up w q (.inl (k, N', .inr (.inr (.inr (.inr (fun _ => none))))))) H1 → va_S A H0 H1 locs → W p l e R s m args below meth c H1 locs (cells + 1) (slots + N') Q (F0 m (pc + 3) ls (.ref q :: rest))) : W p l e R s m args below meth c H locs cells slots Q (F0 m pc ls (.int n :: rest)) := by
  obtain ⟨ws, h1, h2, h3⟩ := fh_new hP
  refine va_newq hx hb hown hlink hover hK h1 h2 hS hA hn hN' hbytes hc hs hdg (fun q cA H1 g1 g2 g3 g4 => ?_)
  obtain ⟨-, -, -, -, -, f1⟩ := (g1.2 7 _ rfl).2
  obtain ⟨-, -, -, -, -, f2⟩ := (hK.2 k _ ht).2
  have e1 : cA = ca k := Option.some.inj (f1.symm.trans f2)
  subst e1
  have h5 := h3 q (.inl (k, N', .inr (.inr (.inr (.inr (fun _ => none)))))) H1 hk4 (k_ne5 hE g3) g2 g3
  exact kk q H1 h5.2 h5.1 g4
theorem k_asg {C E : String} (hN : fx_N s) (hw : (decide (Cond.castable C E ∈ lw_tbl) && fx_isN (.castable C E)) = true) : ∀ comp c0 : ClassId, s.vm.findClass E = some comp → s.vm.findClass C = some c0 → s.vm.assignable c0 comp = true := by
  intro comp c0 h1 h2
  obtain ⟨a, b, f1, f2, f3⟩ := Cond.castable_spec (hN.use (args := #[]) hw)
  cases h2.symm.trans f1
  cases h1.symm.trans f2
  exact f3
theorem k_any (hK : va_K D vwCl (kTy ca) s) (hN : fx_N s) (hP : fh_ok D ca A w H) {v : Nat} {fs : List Value} (hv : w v = some (.inr (5, fs))) : va_Any "java/lang/Object" s H v := va_rAny hK (fh_one hP hv rfl) (q0 := 0) rfl (r := (RXOp, TXOp, 6)) rfl (k_asg hN (by decide +kernel))
theorem kasO (hx : p.tables.exec = Jvm.exec) (hb : c.code = cc) (hN : fx_N s) (hK : va_K D vwCl (kTy ca) s) (hP : fh_ok D ca A w H) (hS : va_S A H0 H locs) {a n v : Nat} {fs : List Value} {f : Nat → Option Nat} (ha : w a = some (.inl (3, n, .inr (.inr (.inr (.inr f)))))) (hv : w v = some (.inr (5, fs))) {i : Int32} (hin : vp_in i n) (hdg : decode cc pc = .ok (.aastore, 1)) (kk : ∀ (H1 : Heap) (locs1 : List Loc), fh_ok D ca A (fh_up w a (.inl (3, n, .inr (.inr (.inr (.inr (va_up f i.toNatClampNeg (some v)))))))) H1 → va_S A H0 H1 locs1 → W p l e R s m args below meth c H1 locs1 cells slots Q (F0 m (pc + 1) ls rest)) : W p l e R s m args below meth c H locs cells slots Q (F0 m pc ls (.ref v :: .int i :: .ref a :: rest)) := by
  obtain ⟨ws, q0, h1, h2, h3, h5, h4⟩ := fh_put hP ha rfl
  exact va_astqM hx hb hK h2 h3 hS q0 3 h1 rfl (k_any hK hN hP hv) hin hdg (fun H1 locs1 g1 _ g3 => kk H1 locs1 (h4 _ _ rfl g1) g3)
theorem kcast {own : String} {index : Nat} (hx : p.tables.exec = Jvm.exec) (hb : c.code = cc) (hown : s.vm.findClass own = some m.cls) (hlink : (Cond.classLink own index "HashLinkedWeb$Operation").before args s = true) (hN : fx_N s) (hK : va_K D vwCl (kTy ca) s) (hP : fh_ok D ca A w H) {a : Nat} {fs : List Value} (ha : w a = some (.inr (5, fs))) (hdg : decode cc pc = .ok (.checkcast index, 3)) (kk : W p l e R s m args below meth c H locs cells slots Q (F0 m (pc + 3) ls (.ref a :: rest))) : W p l e R s m args below meth c H locs cells slots Q (F0 m pc ls (.ref a :: rest)) := va_castY (C := "HashLinkedWeb$Operation") hx hb hown hlink (hN.use (args := #[]) (by decide +kernel)) (va_recv hK (fh_one hP ha rfl) (ci := 5) (q0 := 0) rfl rfl) hdg kk
theorem kcpO {own : String} {index : Nat} (hx : p.tables.exec = Jvm.exec) (hb : c.code = cc) (hml : c.maxLocals = ls.size) (hown : s.vm.findClass own = some m.cls) (hts : ∀ w ∈ lg_tbl, w.before args s = true) (hlink : (Cond.methodLink own index arraycopyName).before args s = true) (hN : fx_N s) (hK : va_K D vwCl (kTy ca) s) (hP : fh_ok D ca A w H) (hS : va_S A H0 H locs) {a n0 : Nat} {f : Nat → Option Nat} (ha : w a = some (.inl (3, n0, .inr (.inr (.inr (.inr f)))))) {sp dp n : Int32} (h1 : ¬ sp < 0) (h2 : ¬ dp < 0) (h3 : ¬ n < 0) (h4 : sp.toNatClampNeg + n.toNatClampNeg ≤ n0) (h5 : dp.toNatClampNeg + n.toNatClampNeg ≤ n0) (hel : ∀ i : Nat, i < n.toNatClampNeg → ∀ y : Nat, f (sp.toNatClampNeg + i) = some y → ∃ fs : List Value, w y = some (.inr (5, fs))) (hframes : 1 ≤ R.frames) (hlocals : (rest.map fun v => v.category).sum + (nativeFrameWords "java/lang/System" "arraycopy" 5 + 11) ≤ R.locals) (hdg : decode cc pc = .ok (.invokestatic index, 3))
    (kk : ∀ (H1 : Heap) (locs1 : List Loc), fh_ok D ca A (fh_up w a (.inl (3, n0, .inr (.inr (.inr (.inr (va_cpy f f sp.toNatClampNeg dp.toNatClampNeg n.toNatClampNeg))))))) H1 → va_S A H0 H1 locs1 → W p l e R s m args below meth c H1 locs1 cells slots Q (F0 m (pc + 3) ls rest)) : W p l e R s m args below meth c H locs cells slots Q (F0 m pc ls (.int n :: .int dp :: .ref a :: .int sp :: .ref a :: rest)) := by
  obtain ⟨ws, q0, g1, g2, g3, g5, g4⟩ := fh_put hP ha rfl
  refine va_copyM hx hb hml hown hlink (hts (.native arraycopyName) (fx_m (by decide +kernel))) (hts (.static arraycopyName) (fx_m (by decide +kernel))) (hts (.initialized "java/lang/System") (fx_m (by decide +kernel))) hK g2 g3 hS q0 q0 3 3 g1 g1 rfl rfl h1 h2 h3 h4 h5 (fun i hi y hy => ?_) hframes hlocals hdg (fun H1 locs1 k1 _ k3 => kk H1 locs1 (g4 _ _ rfl k1) k3)
  obtain ⟨fs, hfs⟩ := hel i hi y hy
  exact k_any hK hN hP hfs
theorem kcpL {own : String} {index : Nat} (hx : p.tables.exec = Jvm.exec) (hb : c.code = cc) (hml : c.maxLocals = ls.size) (hown : s.vm.findClass own = some m.cls) (hts : ∀ w ∈ lg_tbl, w.before args s = true) (hlink : (Cond.methodLink own index arraycopyName).before args s = true) (hK : va_K D vwCl (kTy ca) s) (hP : fh_ok D ca A w H) (hS : va_S A H0 H locs) {a0 a n0 n1 : Nat} {f g : Nat → Int64} (ha0 : w a0 = some (.inl (2, n0, .inr (.inl f)))) (ha : w a = some (.inl (2, n1, .inr (.inl g)))) {sp dp n : Int32} (h1 : ¬ sp < 0) (h2 : ¬ dp < 0) (h3 : ¬ n < 0) (h4 : sp.toNatClampNeg + n.toNatClampNeg ≤ n0) (h5 : dp.toNatClampNeg + n.toNatClampNeg ≤ n1) (hframes : 1 ≤ R.frames) (hlocals : (rest.map fun v => v.category).sum + (nativeFrameWords "java/lang/System" "arraycopy" 5 + 11) ≤ R.locals) (hdg : decode cc pc = .ok (.invokestatic index, 3))
    (kk : ∀ (H1 : Heap) (locs1 : List Loc), fh_ok D ca A (fh_up w a (.inl (2, n1, .inr (.inl (va_cpy f g sp.toNatClampNeg dp.toNatClampNeg n.toNatClampNeg))))) H1 → va_S A H0 H1 locs1 → W p l e R s m args below meth c H1 locs1 cells slots Q (F0 m (pc + 3) ls rest)) : W p l e R s m args below meth c H locs cells slots Q (F0 m pc ls (.int n :: .int dp :: .ref a :: .int sp :: .ref a0 :: rest)) := by
  obtain ⟨ws, q0, g1, g2, g3, g5, g4⟩ := fh_put hP ha rfl
  obtain ⟨q1, hq1⟩ := g5 a0 _ ha0 rfl
  exact va_copyl hx hb hml hown hlink (hts (.native arraycopyName) (fx_m (by decide +kernel))) (hts (.static arraycopyName) (fx_m (by decide +kernel))) (hts (.initialized "java/lang/System") (fx_m (by decide +kernel))) hK g2 g3 hS q1 q0 2 2 (ty := .long) hq1 g1 rfl rfl rfl h1 h2 h3 h4 h5 (fun i hi => rfl) hframes hlocals hdg (fun H1 locs1 k1 _ k3 => kk H1 locs1 (g4 _ _ rfl k1) k3)
theorem k_nmL (hK : va_K D vwCl (kTy ca) s) : s.vm.findClass "[J" = some (ca 2) := (hK.2 2 (ca 2, .long) rfl).2
theorem kcastL {own : String} {index : Nat} (hx : p.tables.exec = Jvm.exec) (hb : c.code = cc) (hown : s.vm.findClass own = some m.cls) (hlink : (Cond.classLink own index "[J").before args s = true) (hK : va_K D vwCl (kTy ca) s) (hP : fh_ok D ca A w H) {a n : Nat} {z : (Nat → Int32) ⊕ (Nat → Int64) ⊕ (Nat → UInt32) ⊕ (Nat → UInt64) ⊕ (Nat → Option Nat)} (ha : w a = some (.inl (2, n, z))) (hdg : decode cc pc = .ok (.checkcast index, 3)) (kk : W p l e R s m args below meth c H locs cells slots Q (F0 m (pc + 3) ls (.ref a :: rest))) : W p l e R s m args below meth c H locs cells slots Q (F0 m pc ls (.ref a :: rest)) := va_castA hx hb hown hlink (fh_one hP ha rfl) 0 rfl (k_nmL hK) hdg kk
theorem kclone {own : String} {index : Nat} (hx : p.tables.exec = Jvm.exec) (hb : c.code = cc) (hml : c.maxLocals = ls.size) (hown : s.vm.findClass own = some m.cls) (hts : ∀ w ∈ lg_tbl, w.before args s = true) (hlink : (Cond.methodLink own index ⟨"[J", "clone", "()Ljava/lang/Object;"⟩).before args s = true) (hN : fx_N s) (hK : va_K D vwCl (kTy ca) s) (hE : kE ca A s s.heap) (hP : fh_ok D ca A w H) (hS : va_S A H0 H locs) (hA : ∀ q : Nat, H0.size ≤ q → A q) {a n : Nat} {f : Nat → Int64} (ha : w a = some (.inl (2, n, .inr (.inl f)))) (hframes : 1 ≤ R.frames) (hlocals : (rest.map fun v => v.category).sum + 14 ≤ R.locals) (hc : cells + 1 ≤ R.cells) (hs : slots + n ≤ R.slots) (hdg : decode cc pc = .ok (.invokevirtual index, 3)) (kk : ∀ (q : Nat) (H1 : Heap), w q = none → fh_ok D ca A (fh_up w q (.inl (2, n, .inr (.inl f)))) H1 → va_S A H0 H1 locs → W p l e R s m args below meth c H1 locs (cells + 1) (slots + n) Q (F0 m (pc + 3) ls (.ref q :: rest))) : W p l e R s m args below meth c H locs cells slots Q (F0 m pc ls (.ref a :: rest)) := by
  obtain ⟨ws, h1, h2, hin, h3⟩ := fh_newp hP
  obtain ⟨q0, hq0⟩ := hin a _ ha rfl
  refine va_clone (ad := "[J") (x := (n, .inr (.inl f))) (ty := .long) hx hb hml hown hlink (hts (.sameMethod "[J" "java/lang/Object" "clone" "()Ljava/lang/Object;") (fx_m (by decide +kernel))) (hts (.native ⟨"java/lang/Object", "clone", "()Ljava/lang/Object;"⟩) (fx_m (by decide +kernel))) (hts (.instanceMethod ⟨"java/lang/Object", "clone", "()Ljava/lang/Object;"⟩) (fx_m (by decide +kernel))) (hts (.selects "[J" ⟨"[J", "clone", "()Ljava/lang/Object;"⟩ ⟨"java/lang/Object", "clone", "()Ljava/lang/Object;"⟩) (fx_m (by decide +kernel))) (hN.use (args := #[]) (w := .castable "[J" "java/lang/Cloneable") (by decide +kernel)) hK h1 h2 hS hA q0 2 hq0 rfl (k_nmL hK) (fun i v hv => ?_) hframes hlocals hc hs hdg (fun q H1 g1 g2 g3 g4 => ?_)
  · by_cases hi : i < n
    · have h5 : (arrV (ca 2) n (fun j => Value.long (f j))).slots[i]? = some (Value.long (f i)) := arrV_read _ _ hi
      have h6 : some (Value.long (f i)) = some v := h5.symm.trans hv
      cases h6
      rfl
    · have h5 := (Array.getElem?_eq_some_iff.mp hv).1
      have h6 : (arrV (ca 2) n (fun j => Value.long (f j))).slots.size = n := arrV_size _ _ _
      exact absurd (h6 ▸ h5) hi
  · have h5 := h3 q (.inl (2, n, .inr (.inl f))) H1 rfl (k_ne5 hE g3) g2 g3
    exact kk q H1 h5.2 h5.1 g4
end KNEW
theorem k_out0_5 {x : Int32} (h0 : ¬ x = 0) (h1 : ¬ x = 1) (h2 : ¬ x = 2) (h3 : ¬ x = 3) (h4 : ¬ x = 4) (h5 : ¬ x = 5) : x.toInt < 0 ∨ 5 < x.toInt := by
  have e : ∀ k : Int32, ¬ x = k → ¬ x.toInt = k.toInt := fun k h q => h (Int32.toInt_inj.mp q)
  have a0 := e 0 h0
  have a1 := e 1 h1
  have a2 := e 2 h2
  have a3 := e 3 h3
  have a4 := e 4 h4
  have a5 := e 5 h5
  have b0 : (0 : Int32).toInt = 0 := by decide
  have b1 : (1 : Int32).toInt = 1 := by decide
  have b2 : (2 : Int32).toInt = 2 := by decide
  have b3 : (3 : Int32).toInt = 3 := by decide
  have b4 : (4 : Int32).toInt = 4 := by decide
  have b5 : (5 : Int32).toInt = 5 := by decide
  omega
