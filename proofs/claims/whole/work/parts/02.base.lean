/-! base rows of mine: one list of words for all methods (lw_tbl), a contract's start, calls, long shifts by name -/
def hj_shl (x : Int64) (y : Int32) : Int64 := x <<< (y.toInt64 &&& 63)
def hj_shr (x : Int64) (y : Int32) : Int64 := x >>> (y.toInt64 &&& 63)
def hj_ushr (x : Int64) (y : Int32) : Int64 := (x.toUInt64 >>> (y.toInt64.toUInt64 &&& Int64.toUInt64 63)).toInt64
/-- the words that a method's start keeps under warming: the list that every contract of mine stands on -/
def lg_tbl : List Cond := lw_tbl.filter (fun w => k2_isCode w || goodWord w)
theorem fx_m {w : Cond} (h : (decide (w ∈ lw_tbl) && (k2_isCode w || goodWord w)) = true) : w ∈ lg_tbl := by
  rw [Bool.and_eq_true, decide_eq_true_eq] at h
  exact List.mem_filter.mpr ⟨h.1, h.2⟩
theorem fx_mA {ws : List Cond} (h : (ws.all (fun w => decide (w ∈ lw_tbl) && (k2_isCode w || goodWord w))) = true) : ∀ w ∈ ws, w ∈ lg_tbl := fun w hw => fx_m (List.all_eq_true.mp h w hw)
theorem fx_c {y : MethodName} {b : ByteArray} {n : Nat} {r : Option FieldType} (i : Nat) (h : lw_tbl[i]? = some (.code y b n r)) : Cond.code y b n r ∈ lg_tbl := List.mem_filter.mpr ⟨List.mem_of_getElem? h, rfl⟩
theorem fx_good {w : Cond} (h : w ∈ lg_tbl) : (w.onTables && w.keeps) = true ∨ ∃ ty, w = .arrayClass ty := by
  have h1 := (List.mem_filter.mp h).2
  rw [Bool.or_eq_true] at h1
  rcases h1 with hc | hg
  · cases w <;> first | (simp [k2_isCode] at hc; done) | exact Or.inl rfl
  · exact good_of_word hg
theorem fx_in {ws : List Cond} (h : ∀ w ∈ ws, w ∈ lg_tbl) : GoodIn lg_tbl ws := fun w hw => ⟨h w hw, fx_good (h w hw)⟩
theorem fx_goodV {own : String} {index : Nat} {C : String} {y : MethodName} {bytes : ByteArray} {n : Nat} {ret : Option FieldType} (h1 : Cond.methodLink own index y ∈ lg_tbl) (h2 : Cond.instanceMethod y ∈ lg_tbl) (h3 : Cond.selects C y y ∈ lg_tbl) (h4 : Cond.initialized C ∈ lg_tbl) (h5 : Cond.code y bytes n ret ∈ lg_tbl) : GoodIn lg_tbl (wsV own index C y (.code y bytes n ret :: lg_tbl)) := by
  refine fx_in (fun w hw => ?_)
  unfold wsV at hw
  rcases List.mem_append.mp hw with hw | hw
  · simp only [List.mem_cons, List.not_mem_nil, or_false] at hw
    rcases hw with rfl | rfl | rfl | rfl <;> assumption
  · rcases List.mem_cons.mp hw with rfl | hw
    · exact h5
    · exact hw
theorem fx_goodS {own : String} {index : Nat} {y : MethodName} {bytes : ByteArray} {n : Nat} {ret : Option FieldType} (h1 : Cond.methodLink own index y ∈ lg_tbl) (h2 : Cond.static y ∈ lg_tbl) (h4 : Cond.initialized own ∈ lg_tbl) (h5 : Cond.code y bytes n ret ∈ lg_tbl) : GoodIn lg_tbl (wsS own index y (.code y bytes n ret :: lg_tbl)) := by
  refine fx_in (fun w hw => ?_)
  unfold wsS at hw
  rcases List.mem_append.mp hw with hw | hw
  · simp only [List.mem_cons, List.not_mem_nil, or_false] at hw
    rcases hw with rfl | rfl | rfl <;> assumption
  · rcases List.mem_cons.mp hw with rfl | hw
    · exact h5
    · exact hw
theorem fx_start {l : Launch} {y : MethodName} {cc : ByteArray} {n : Nat} {ret : Option FieldType} {rm : Room} {av : List Value} {B : State → Prop} {Qc : Array Value → State → Outcome → State → Prop} {mc ms : Nat} {free : Nat → Prop} (hy : plainName y.cls = true) (hlen : (lg_sl av).length ≤ n)
    (body : ∀ (p : Program) (e : Env) (s : State) (m : MethodId) (below : List Frame) (meth : Method) (c : Code) (ls : Array Slot), p.tables.exec = Jvm.exec → c.code = cc → meth.sig.returnType = ret → c.maxLocals = n → s.vm.findClass y.cls = some m.cls → (∀ w ∈ lg_tbl, w.before av.toArray s = true) → meth.locks = false → meth.name = y.name → B s → lv_has ls n (lv_args 0 av) →
      W p l e rm s m av.toArray below meth c s.heap [] 0 0 (MQ below Qc av.toArray s mc ms free) (F0 m 0 ls [])) : Met l y (.code y cc n ret :: lg_tbl) rm (va_Pc av B) Qc mc ms free := by
  refine Met.ofW (cc := cc) (maxL := n) (ret := ret) hy rfl ?_
  intro p e s m args below meth c s₁ B0 hml hv
  obtain ⟨rfl, hB⟩ := hv
  have hts := atoms_spec (ws := Cond.code y cc n ret :: lg_tbl) B0.pre
  rw [lg_entry_eq]
  exact body p e s m below meth c _ B0.exec B0.bytes B0.returns hml (findClass_of_methodNamed B0.named) (fun w h => hts w (List.mem_cons_of_mem _ h)) B0.notSynchronized (name_of_methodNamed B0.named B0.method).1 hB (lv_entry av hlen)
/-- the words of nest mates, casts and arrays of objects: kept too, but each by its own law -/
def fx_isN : Cond → Bool
  | .fieldLinkNest .. => true
  | .methodLinkNest .. => true
  | .castable .. => true
  | .arrayOver (.object _) => true
  | _ => false
def fx_N (U : State) : Prop := ∀ w ∈ lw_tbl, fx_isN w = true → va_Nw w U
theorem fx_N.warm {s U : State} (hW : s.WarmedH U.vm) (h : fx_N s) : fx_N U := by
  intro w hw hn
  have h1 := h w hw hn
  cases w <;> first | (simp [fx_isN] at hn; done) | exact va_Nw.warmF hW h1 | exact va_Nw.warmM hW h1 | exact va_Nw.warmC hW h1 | (rename_i ty; cases ty <;> first | (simp [fx_isN] at hn; done) | exact va_AO.moved hW.alike h1)
theorem fx_N.same {u U : State} (hv : u.vm = U.vm) (h : fx_N u) : fx_N U := by
  intro w hw hn
  have h1 := h w hw hn
  cases w <;> first | (simp [fx_isN] at hn; done) | exact va_Nw.same rfl hv h1 | (rename_i ty; cases ty <;> first | (simp [fx_isN] at hn; done) | exact va_AO.moved (by rw [hv]; exact Vm.Alike.refl _) h1)
theorem fx_N.use {U : State} {args : Array Value} {w : Cond} (h : fx_N U) (hw : (decide (w ∈ lw_tbl) && fx_isN w) = true) : w.before args U = true := by
  rw [Bool.and_eq_true, decide_eq_true_eq] at hw
  have h1 := h w hw.1 hw.2
  have hn := hw.2
  cases w <;> first | (simp [fx_isN] at hn; done) | exact va_Nw.use rfl h1 | (rename_i ty; cases ty <;> first | (simp [fx_isN] at hn; done) | exact va_AO.use h1)
/-- a contract's start over a world predicate, and its end -/
def fxB (Wd : Heap → Prop) (D : va_G) (cl : List vw_C) (tys : List (ClassId × FieldType)) : State → Prop := fun U => Wd U.heap ∧ va_K D cl tys U ∧ fx_N U
def fxC {S : Type} (Wd : S → Heap → Prop) : S → State → Prop := fun u t => Wd u t.heap
theorem fx_blind {av : List Value} {Wd : Heap → Prop} {D : va_G} {cl : List vw_C} {tys : List (ClassId × FieldType)} : FrameBlind (va_Pc av (fxB Wd D cl tys)) := fun a U g mk q => ⟨q.1, q.2.1, va_K.moved (u := U) (U := U.calling g mk a) (Vm.Alike.refl U.vm) q.2.2.1, fx_N.same (u := U) (U := U.calling g mk a) rfl q.2.2.2⟩
theorem fx_preV {s : State} {H : Heap} {C : String} {b : Nat} {av : List Value} {Wd : Heap → Prop} {D : va_G} {cl : List vw_C} {tys : List (ClassId × FieldType)} (hr : ∃ cellB : Cell, H[b]? = some cellB ∧ cellB.vm.isStatics = false ∧ s.vm.findClass C = some cellB.cls) (hP : Wd H) (hK : va_K D cl tys s) (hN : fx_N s) : PreV s H C b (va_Pc (.ref b :: av) (fxB Wd D cl tys)) av := ⟨fx_blind, hr, fun U hU hW => ⟨rfl, by rw [hU]; exact hP, va_K.moved hW.alike hK, hN.warm hW⟩⟩
theorem fx_preS {s : State} {H : Heap} {av : List Value} {Wd : Heap → Prop} {D : va_G} {cl : List vw_C} {tys : List (ClassId × FieldType)} (hP : Wd H) (hK : va_K D cl tys s) (hN : fx_N s) : PreS s H (va_Pc av (fxB Wd D cl tys)) av := ⟨fx_blind, fun U hU hW => ⟨rfl, by rw [hU]; exact hP, va_K.moved hW.alike hK, hN.warm hW⟩⟩
section FXC
variable {R : Room} {s : State} {args : Array Value} {own C : String} {index : Nat} {y : MethodName} {bytes : ByteArray} {maxL mc ms : Nat} {ret : Option FieldType} {rm : Room}
theorem fx_cwV (n : Nat) (ht : ∀ w ∈ lg_tbl, w.before args s = true) (hG : GoodIn lg_tbl (wsV own index C y (.code y bytes maxL ret :: lg_tbl))) (hd : y.cls = C ∧ y.cls ≠ "java/lang/invoke/MethodHandle" ∧ y.cls ≠ "java/lang/invoke/VarHandle" ∧ (parseMethodDescriptor y.desc).map (fun d => d.parameters.length) = some n) (hR : rm.frames + 1 ≤ R.frames ∧ 8 + (maxL + 11) + rm.locals ≤ R.locals) : CallW R s args own C index y bytes maxL ret (.code y bytes maxL ret :: lg_tbl) rm rm.cells rm.slots n := cwV n ht hG rfl rfl rfl hd hR
theorem fx_cwS (n : Nat) (ht : ∀ w ∈ lg_tbl, w.before args s = true) (hG : GoodIn lg_tbl (wsS own index y (.code y bytes maxL ret :: lg_tbl))) (hd : y.cls = own ∧ y.cls ≠ "java/lang/invoke/MethodHandle" ∧ y.cls ≠ "java/lang/invoke/VarHandle" ∧ (parseMethodDescriptor y.desc).map (fun d => d.parameters.length) = some n) (hR : rm.frames + 1 ≤ R.frames ∧ 8 + (maxL + 11) + rm.locals ≤ R.locals) : CallB R s args own index y bytes maxL ret (.code y bytes maxL ret :: lg_tbl) rm rm.cells rm.slots n ∧ (Cond.static y).before args s = true := cwS n ht hG rfl rfl rfl hd hR
end FXC
