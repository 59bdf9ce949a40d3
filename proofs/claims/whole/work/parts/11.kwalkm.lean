def wKXM_init_143 (post : fh_T → Prop) (w : fh_T) (mc : Nat) (ms : Nat) (v0 : Nat) : Prop := (∃ n165 mc166 ms167, ¬ (40 : Int32) < 0 ∧ Int32.toNatClampNeg 40 = n165 ∧ n165 * componentBytes .int ≤ 536870912 ∧ mc = mc166 + 1 ∧ ms = ms167 + n165 ∧ ∀ q163, w q163 = none → ∀ w164, w164 = fh_up w q163 (.inl (6, n165, .inl (fun _ => 0))) → (∃ fs168, w164 v0 = some (.inr (0, fs168)) ∧ 21 < fs168.length ∧ ∀ w169, w169 = fh_up w164 v0 (.inr (0, fs168.set 21 (.ref q163))) → (post w169)))
def wKXM_init_129 (post : fh_T → Prop) (w : fh_T) (mc : Nat) (ms : Nat) (v0 : Nat) : Prop := (∃ n147 mc148 ms149, ¬ (5 : Int32) < 0 ∧ Int32.toNatClampNeg 5 = n147 ∧ n147 * componentBytes .int ≤ 536870912 ∧ mc = mc148 + 1 ∧ ms = ms149 + n147 ∧ ∀ q145, w q145 = none → ∀ w146, w146 = fh_up w q145 (.inl (6, n147, .inl (fun _ => 0))) → (∃ fs150, w146 v0 = some (.inr (0, fs150)) ∧ 17 < fs150.length ∧ ∀ w151, w151 = fh_up w146 v0 (.inr (0, fs150.set 17 (.ref q145))) → (∃ n156 mc157 ms158, ¬ (4 : Int32) < 0 ∧ Int32.toNatClampNeg 4 = n156 ∧ n156 * componentBytes .long ≤ 536870912 ∧ mc148 = mc157 + 1 ∧ ms149 = ms158 + n156 ∧ ∀ q154, w151 q154 = none → ∀ w155, w155 = fh_up w151 q154 (.inl (2, n156, .inr (.inl (fun _ => 0)))) → (∃ fs159, w155 v0 = some (.inr (0, fs159)) ∧ 18 < fs159.length ∧ ∀ w160, w160 = fh_up w155 v0 (.inr (0, fs159.set 18 (.ref q154))) → (wKXM_init_143 post  w160 mc157 ms158 v0)))))
def wKXM_init_115 (post : fh_T → Prop) (w : fh_T) (mc : Nat) (ms : Nat) (v0 : Nat) : Prop := (∃ n129 mc130 ms131, ¬ (5 : Int32) < 0 ∧ Int32.toNatClampNeg 5 = n129 ∧ n129 * componentBytes .int ≤ 536870912 ∧ mc = mc130 + 1 ∧ ms = ms131 + n129 ∧ ∀ q127, w q127 = none → ∀ w128, w128 = fh_up w q127 (.inl (6, n129, .inl (fun _ => 0))) → (∃ fs132, w128 v0 = some (.inr (0, fs132)) ∧ 15 < fs132.length ∧ ∀ w133, w133 = fh_up w128 v0 (.inr (0, fs132.set 15 (.ref q127))) → (∃ n138 mc139 ms140, ¬ (4 : Int32) < 0 ∧ Int32.toNatClampNeg 4 = n138 ∧ n138 * componentBytes .long ≤ 536870912 ∧ mc130 = mc139 + 1 ∧ ms131 = ms140 + n138 ∧ ∀ q136, w133 q136 = none → ∀ w137, w137 = fh_up w133 q136 (.inl (2, n138, .inr (.inl (fun _ => 0)))) → (∃ fs141, w137 v0 = some (.inr (0, fs141)) ∧ 16 < fs141.length ∧ ∀ w142, w142 = fh_up w137 v0 (.inr (0, fs141.set 16 (.ref q136))) → (wKXM_init_129 post  w142 mc139 ms140 v0)))))
def wKXM_init_99 (post : fh_T → Prop) (w : fh_T) (mc : Nat) (ms : Nat) (v0 : Nat) : Prop := (∃ n111 mc112 ms113, ¬ (120 : Int32) < 0 ∧ Int32.toNatClampNeg 120 = n111 ∧ n111 * componentBytes .int ≤ 536870912 ∧ mc = mc112 + 1 ∧ ms = ms113 + n111 ∧ ∀ q109, w q109 = none → ∀ w110, w110 = fh_up w q109 (.inl (6, n111, .inl (fun _ => 0))) → (∃ fs114, w110 v0 = some (.inr (0, fs114)) ∧ 13 < fs114.length ∧ ∀ w115, w115 = fh_up w110 v0 (.inr (0, fs114.set 13 (.ref q109))) → (∃ n120 mc121 ms122, ¬ (96 : Int32) < 0 ∧ Int32.toNatClampNeg 96 = n120 ∧ n120 * componentBytes .long ≤ 536870912 ∧ mc112 = mc121 + 1 ∧ ms113 = ms122 + n120 ∧ ∀ q118, w115 q118 = none → ∀ w119, w119 = fh_up w115 q118 (.inl (2, n120, .inr (.inl (fun _ => 0)))) → (∃ fs123, w119 v0 = some (.inr (0, fs123)) ∧ 14 < fs123.length ∧ ∀ w124, w124 = fh_up w119 v0 (.inr (0, fs123.set 14 (.ref q118))) → (wKXM_init_115 post  w124 mc121 ms122 v0)))))
def wKXM_init_84 (post : fh_T → Prop) (w : fh_T) (mc : Nat) (ms : Nat) (v0 : Nat) : Prop := (∃ n93 mc94 ms95, ¬ (4 : Int32) < 0 ∧ Int32.toNatClampNeg 4 = n93 ∧ n93 * componentBytes .int ≤ 536870912 ∧ mc = mc94 + 1 ∧ ms = ms95 + n93 ∧ ∀ q91, w q91 = none → ∀ w92, w92 = fh_up w q91 (.inl (6, n93, .inl (fun _ => 0))) → (∃ fs96, w92 v0 = some (.inr (0, fs96)) ∧ 11 < fs96.length ∧ ∀ w97, w97 = fh_up w92 v0 (.inr (0, fs96.set 11 (.ref q91))) → (∃ n102 mc103 ms104, ¬ (24 : Int32) < 0 ∧ Int32.toNatClampNeg 24 = n102 ∧ n102 * componentBytes .long ≤ 536870912 ∧ mc94 = mc103 + 1 ∧ ms95 = ms104 + n102 ∧ ∀ q100, w97 q100 = none → ∀ w101, w101 = fh_up w97 q100 (.inl (2, n102, .inr (.inl (fun _ => 0)))) → (∃ fs105, w101 v0 = some (.inr (0, fs105)) ∧ 12 < fs105.length ∧ ∀ w106, w106 = fh_up w101 v0 (.inr (0, fs105.set 12 (.ref q100))) → (wKXM_init_99 post  w106 mc103 ms104 v0)))))
def wKXM_init_69 (post : fh_T → Prop) (w : fh_T) (mc : Nat) (ms : Nat) (v0 : Nat) : Prop := (∃ n75 mc76 ms77, ¬ (40 : Int32) < 0 ∧ Int32.toNatClampNeg 40 = n75 ∧ n75 * componentBytes .int ≤ 536870912 ∧ mc = mc76 + 1 ∧ ms = ms77 + n75 ∧ ∀ q73, w q73 = none → ∀ w74, w74 = fh_up w q73 (.inl (6, n75, .inl (fun _ => 0))) → (∃ fs78, w74 v0 = some (.inr (0, fs78)) ∧ 9 < fs78.length ∧ ∀ w79, w79 = fh_up w74 v0 (.inr (0, fs78.set 9 (.ref q73))) → (∃ n84 mc85 ms86, ¬ (4 : Int32) < 0 ∧ Int32.toNatClampNeg 4 = n84 ∧ n84 * componentBytes .long ≤ 536870912 ∧ mc76 = mc85 + 1 ∧ ms77 = ms86 + n84 ∧ ∀ q82, w79 q82 = none → ∀ w83, w83 = fh_up w79 q82 (.inl (2, n84, .inr (.inl (fun _ => 0)))) → (∃ fs87, w83 v0 = some (.inr (0, fs87)) ∧ 10 < fs87.length ∧ ∀ w88, w88 = fh_up w83 v0 (.inr (0, fs87.set 10 (.ref q82))) → (wKXM_init_84 post  w88 mc85 ms86 v0)))))
def wKXM_init_52 (post : fh_T → Prop) (w : fh_T) (mc : Nat) (ms : Nat) (v0 : Nat) : Prop := (∃ n57 mc58 ms59, ¬ (160 : Int32) < 0 ∧ Int32.toNatClampNeg 160 = n57 ∧ n57 * componentBytes .long ≤ 536870912 ∧ mc = mc58 + 1 ∧ ms = ms59 + n57 ∧ ∀ q55, w q55 = none → ∀ w56, w56 = fh_up w q55 (.inl (2, n57, .inr (.inl (fun _ => 0)))) → (∃ fs60, w56 v0 = some (.inr (0, fs60)) ∧ 7 < fs60.length ∧ ∀ w61, w61 = fh_up w56 v0 (.inr (0, fs60.set 7 (.ref q55))) → (∃ n66 mc67 ms68, ¬ (40 : Int32) < 0 ∧ Int32.toNatClampNeg 40 = n66 ∧ n66 * componentBytes .long ≤ 536870912 ∧ mc58 = mc67 + 1 ∧ ms59 = ms68 + n66 ∧ ∀ q64, w61 q64 = none → ∀ w65, w65 = fh_up w61 q64 (.inl (2, n66, .inr (.inl (fun _ => 0)))) → (∃ fs69, w65 v0 = some (.inr (0, fs69)) ∧ 8 < fs69.length ∧ ∀ w70, w70 = fh_up w65 v0 (.inr (0, fs69.set 8 (.ref q64))) → (wKXM_init_69 post  w70 mc67 ms68 v0)))))
def wKXM_init_36 (post : fh_T → Prop) (w : fh_T) (mc : Nat) (ms : Nat) (v0 : Nat) : Prop := (∃ n39 mc40 ms41, ¬ (40 : Int32) < 0 ∧ Int32.toNatClampNeg 40 = n39 ∧ n39 * componentBytes .int ≤ 536870912 ∧ mc = mc40 + 1 ∧ ms = ms41 + n39 ∧ ∀ q37, w q37 = none → ∀ w38, w38 = fh_up w q37 (.inl (6, n39, .inl (fun _ => 0))) → (∃ fs42, w38 v0 = some (.inr (0, fs42)) ∧ 5 < fs42.length ∧ ∀ w43, w43 = fh_up w38 v0 (.inr (0, fs42.set 5 (.ref q37))) → (∃ n48 mc49 ms50, ¬ (40 : Int32) < 0 ∧ Int32.toNatClampNeg 40 = n48 ∧ n48 * componentBytes .int ≤ 536870912 ∧ mc40 = mc49 + 1 ∧ ms41 = ms50 + n48 ∧ ∀ q46, w43 q46 = none → ∀ w47, w47 = fh_up w43 q46 (.inl (6, n48, .inl (fun _ => 0))) → (∃ fs51, w47 v0 = some (.inr (0, fs51)) ∧ 6 < fs51.length ∧ ∀ w52, w52 = fh_up w47 v0 (.inr (0, fs51.set 6 (.ref q46))) → (wKXM_init_52 post  w52 mc49 ms50 v0)))))
def wKXM_init_20 (post : fh_T → Prop) (w : fh_T) (mc : Nat) (ms : Nat) (v0 : Nat) : Prop := (∃ n21 mc22 ms23, ¬ (40 : Int32) < 0 ∧ Int32.toNatClampNeg 40 = n21 ∧ n21 * componentBytes .int ≤ 536870912 ∧ mc = mc22 + 1 ∧ ms = ms23 + n21 ∧ ∀ q19, w q19 = none → ∀ w20, w20 = fh_up w q19 (.inl (6, n21, .inl (fun _ => 0))) → (∃ fs24, w20 v0 = some (.inr (0, fs24)) ∧ 3 < fs24.length ∧ ∀ w25, w25 = fh_up w20 v0 (.inr (0, fs24.set 3 (.ref q19))) → (∃ n30 mc31 ms32, ¬ (40 : Int32) < 0 ∧ Int32.toNatClampNeg 40 = n30 ∧ n30 * componentBytes .int ≤ 536870912 ∧ mc22 = mc31 + 1 ∧ ms23 = ms32 + n30 ∧ ∀ q28, w25 q28 = none → ∀ w29, w29 = fh_up w25 q28 (.inl (6, n30, .inl (fun _ => 0))) → (∃ fs33, w29 v0 = some (.inr (0, fs33)) ∧ 4 < fs33.length ∧ ∀ w34, w34 = fh_up w29 v0 (.inr (0, fs33.set 4 (.ref q28))) → (wKXM_init_36 post  w34 mc31 ms32 v0)))))
def wKXM_init (post : fh_T → Prop) (w : fh_T) (mc : Nat) (ms : Nat) (a0 : Nat) : Prop := (∃ n3 mc4 ms5, ¬ (40 : Int32) < 0 ∧ Int32.toNatClampNeg 40 = n3 ∧ n3 * componentBytes .long ≤ 536870912 ∧ mc = mc4 + 1 ∧ ms = ms5 + n3 ∧ ∀ q1, w q1 = none → ∀ w2, w2 = fh_up w q1 (.inl (2, n3, .inr (.inl (fun _ => 0)))) → (∃ fs6, w2 a0 = some (.inr (0, fs6)) ∧ 1 < fs6.length ∧ ∀ w7, w7 = fh_up w2 a0 (.inr (0, fs6.set 1 (.ref q1))) → (∃ n12 mc13 ms14, ¬ (40 : Int32) < 0 ∧ Int32.toNatClampNeg 40 = n12 ∧ n12 * componentBytes .int ≤ 536870912 ∧ mc4 = mc13 + 1 ∧ ms5 = ms14 + n12 ∧ ∀ q10, w7 q10 = none → ∀ w11, w11 = fh_up w7 q10 (.inl (6, n12, .inl (fun _ => 0))) → (∃ fs15, w11 a0 = some (.inr (0, fs15)) ∧ 2 < fs15.length ∧ ∀ w16, w16 = fh_up w11 a0 (.inr (0, fs15.set 2 (.ref q10))) → (wKXM_init_20 post  w16 mc13 ms14 a0)))))
set_option maxRecDepth 100000 in
set_option maxHeartbeats 4000000 in
theorem sKXM_init_143 {p : Program} {l : Launch} {e : Env} {s : State} {m : MethodId} {args : Array Value} {below : List Frame} {meth : Method} {c : Code} {D : va_G} {ca : Nat → Nat} {A : Nat → Prop} {MC MS : Nat} {post : fh_T → Prop} (C0 : kCx p s m args meth c D ca A RXM cXM_init 1 none "<init>") : ∀ (w : fh_T) (mc : Nat) (ms : Nat) (v0 : Nat), wKXM_init_143 post  w mc ms v0 → ∀ (H : Heap) (locs : List Loc) (ls : Array Slot), fh_ok D ca A w H → va_S A s.heap H locs → lv_has ls 1 [(0, .ref v0)] → ∀ cells slots : Nat, cells + mc = MC → slots + ms = MS → W p l e ({ frames := 1, cells := MC, slots := MS, locals := 40 } : Room) s m args below meth c H locs cells slots (MQ below (va_Qv post (fxC (fh_ok D ca A)) A) args s MC MS A) (F0 m 143 ls []) := by
  obtain ⟨hx, hb, hr, hml, hown, hts, hlocks, hK, hN, hE, hA, hin⟩ := id C0
  intro w mc ms v0 h H locs ls hP hS hl cells slots hbc hbs
  replace h : (∃ n165 mc166 ms167, ¬ (40 : Int32) < 0 ∧ Int32.toNatClampNeg 40 = n165 ∧ n165 * componentBytes .int ≤ 536870912 ∧ mc = mc166 + 1 ∧ ms = ms167 + n165 ∧ ∀ q163, w q163 = none → ∀ w164, w164 = fh_up w q163 (.inl (6, n165, .inl (fun _ => 0))) → (∃ fs168, w164 v0 = some (.inr (0, fs168)) ∧ 21 < fs168.length ∧ ∀ w169, w169 = fh_up w164 v0 (.inr (0, fs168.set 21 (.ref q163))) → (post w169))) := h
  refine lv_aload_n hx hb dXM_init_143 rfl (lv_at hl 0 rfl) ?_
  refine lv_bipush (v := 40) hx hb dXM_init_144 (by decide) ?_
  obtain ⟨n165, mc166, ms167, hn1, hn2, hn3, hm1, hm2, h⟩ := h
  refine kinew hx hb hts hK hE hP hS hA hn1 hn2 hn3 (show cells + 1 ≤ MC by omega) (show slots + n165 ≤ MS by omega) dXM_init_146 (fun q163 H hq hP hS => ?_)
  obtain ⟨w164, ew164⟩ : ∃ y, y = fh_up w q163 (.inl (6, n165, .inl (fun _ => 0))) := ⟨_, rfl⟩
  replace h := h q163 hq w164 ew164
  rw [← ew164] at hP
  replace hbc : cells + 1 + mc166 = MC := by omega
  replace hbs : slots + n165 + ms167 = MS := by omega
  obtain ⟨fs168, g170, g171, h⟩ := h
  obtain ⟨w169, ew169⟩ : ∃ y, y = fh_up w164 v0 (.inr (0, fs168.set 21 (.ref q163))) := ⟨_, rfl⟩
  replace h := h w169 ew169
  refine kf_XM_65 hin hx hb hown hts hN hK hP hS g170 g171 dXM_init_148 (fun H locs hP hS => ?_)
  rw [← ew169] at hP
  refine W.widen (k := MC) (n := MS) (by omega) (by omega) ?_
  exact W.vret hx hb hr (fun t ht hW => ⟨⟨_, rfl, h, by rw [fxC, ht]; exact hP⟩, hS.F ht⟩) hS.2.2 dXM_init_151 hlocks
set_option maxRecDepth 100000 in
set_option maxHeartbeats 4000000 in
theorem sKXM_init_129 {p : Program} {l : Launch} {e : Env} {s : State} {m : MethodId} {args : Array Value} {below : List Frame} {meth : Method} {c : Code} {D : va_G} {ca : Nat → Nat} {A : Nat → Prop} {MC MS : Nat} {post : fh_T → Prop} (C0 : kCx p s m args meth c D ca A RXM cXM_init 1 none "<init>") : ∀ (w : fh_T) (mc : Nat) (ms : Nat) (v0 : Nat), wKXM_init_129 post  w mc ms v0 → ∀ (H : Heap) (locs : List Loc) (ls : Array Slot), fh_ok D ca A w H → va_S A s.heap H locs → lv_has ls 1 [(0, .ref v0)] → ∀ cells slots : Nat, cells + mc = MC → slots + ms = MS → W p l e ({ frames := 1, cells := MC, slots := MS, locals := 40 } : Room) s m args below meth c H locs cells slots (MQ below (va_Qv post (fxC (fh_ok D ca A)) A) args s MC MS A) (F0 m 129 ls []) := by
  obtain ⟨hx, hb, hr, hml, hown, hts, hlocks, hK, hN, hE, hA, hin⟩ := id C0
  intro w mc ms v0 h H locs ls hP hS hl cells slots hbc hbs
  replace h : (∃ n147 mc148 ms149, ¬ (5 : Int32) < 0 ∧ Int32.toNatClampNeg 5 = n147 ∧ n147 * componentBytes .int ≤ 536870912 ∧ mc = mc148 + 1 ∧ ms = ms149 + n147 ∧ ∀ q145, w q145 = none → ∀ w146, w146 = fh_up w q145 (.inl (6, n147, .inl (fun _ => 0))) → (∃ fs150, w146 v0 = some (.inr (0, fs150)) ∧ 17 < fs150.length ∧ ∀ w151, w151 = fh_up w146 v0 (.inr (0, fs150.set 17 (.ref q145))) → (∃ n156 mc157 ms158, ¬ (4 : Int32) < 0 ∧ Int32.toNatClampNeg 4 = n156 ∧ n156 * componentBytes .long ≤ 536870912 ∧ mc148 = mc157 + 1 ∧ ms149 = ms158 + n156 ∧ ∀ q154, w151 q154 = none → ∀ w155, w155 = fh_up w151 q154 (.inl (2, n156, .inr (.inl (fun _ => 0)))) → (∃ fs159, w155 v0 = some (.inr (0, fs159)) ∧ 18 < fs159.length ∧ ∀ w160, w160 = fh_up w155 v0 (.inr (0, fs159.set 18 (.ref q154))) → (wKXM_init_143 post  w160 mc157 ms158 v0))))) := h
  refine lv_aload_n hx hb dXM_init_129 rfl (lv_at hl 0 rfl) ?_
  refine lv_iconst (v := 5) hx hb dXM_init_130 (by decide) ?_
  obtain ⟨n147, mc148, ms149, hn1, hn2, hn3, hm1, hm2, h⟩ := h
  refine kinew hx hb hts hK hE hP hS hA hn1 hn2 hn3 (show cells + 1 ≤ MC by omega) (show slots + n147 ≤ MS by omega) dXM_init_131 (fun q145 H hq hP hS => ?_)
  obtain ⟨w146, ew146⟩ : ∃ y, y = fh_up w q145 (.inl (6, n147, .inl (fun _ => 0))) := ⟨_, rfl⟩
  replace h := h q145 hq w146 ew146
  rw [← ew146] at hP
  replace hbc : cells + 1 + mc148 = MC := by omega
  replace hbs : slots + n147 + ms149 = MS := by omega
  obtain ⟨fs150, g152, g153, h⟩ := h
  obtain ⟨w151, ew151⟩ : ∃ y, y = fh_up w146 v0 (.inr (0, fs150.set 17 (.ref q145))) := ⟨_, rfl⟩
  replace h := h w151 ew151
  refine kf_XM_59 hin hx hb hown hts hN hK hP hS g152 g153 dXM_init_133 (fun H locs hP hS => ?_)
  rw [← ew151] at hP
  refine lv_aload_n hx hb dXM_init_136 rfl (lv_at hl 0 rfl) ?_
  refine lv_iconst (v := 4) hx hb dXM_init_137 (by decide) ?_
  obtain ⟨n156, mc157, ms158, hn1, hn2, hn3, hm1, hm2, h⟩ := h
  refine klnew hx hb hts hK hE hP hS hA hn1 hn2 hn3 (show cells + 1 + 1 ≤ MC by omega) (show slots + n147 + n156 ≤ MS by omega) dXM_init_138 (fun q154 H hq hP hS => ?_)
  obtain ⟨w155, ew155⟩ : ∃ y, y = fh_up w151 q154 (.inl (2, n156, .inr (.inl (fun _ => 0)))) := ⟨_, rfl⟩
  replace h := h q154 hq w155 ew155
  rw [← ew155] at hP
  replace hbc : cells + 1 + 1 + mc157 = MC := by omega
  replace hbs : slots + n147 + n156 + ms158 = MS := by omega
  obtain ⟨fs159, g161, g162, h⟩ := h
  obtain ⟨w160, ew160⟩ : ∃ y, y = fh_up w155 v0 (.inr (0, fs159.set 18 (.ref q154))) := ⟨_, rfl⟩
  replace h := h w160 ew160
  refine kf_XM_62 hin hx hb hown hts hN hK hP hS g161 g162 dXM_init_140 (fun H locs hP hS => ?_)
  rw [← ew160] at hP
  exact sKXM_init_143  C0  w160 mc157 ms158 v0 h H locs ls hP hS (lv_sub hl [0] rfl) _ _ hbc hbs
set_option maxRecDepth 100000 in
set_option maxHeartbeats 4000000 in
theorem sKXM_init_115 {p : Program} {l : Launch} {e : Env} {s : State} {m : MethodId} {args : Array Value} {below : List Frame} {meth : Method} {c : Code} {D : va_G} {ca : Nat → Nat} {A : Nat → Prop} {MC MS : Nat} {post : fh_T → Prop} (C0 : kCx p s m args meth c D ca A RXM cXM_init 1 none "<init>") : ∀ (w : fh_T) (mc : Nat) (ms : Nat) (v0 : Nat), wKXM_init_115 post  w mc ms v0 → ∀ (H : Heap) (locs : List Loc) (ls : Array Slot), fh_ok D ca A w H → va_S A s.heap H locs → lv_has ls 1 [(0, .ref v0)] → ∀ cells slots : Nat, cells + mc = MC → slots + ms = MS → W p l e ({ frames := 1, cells := MC, slots := MS, locals := 40 } : Room) s m args below meth c H locs cells slots (MQ below (va_Qv post (fxC (fh_ok D ca A)) A) args s MC MS A) (F0 m 115 ls []) := by
  obtain ⟨hx, hb, hr, hml, hown, hts, hlocks, hK, hN, hE, hA, hin⟩ := id C0
  intro w mc ms v0 h H locs ls hP hS hl cells slots hbc hbs
  replace h : (∃ n129 mc130 ms131, ¬ (5 : Int32) < 0 ∧ Int32.toNatClampNeg 5 = n129 ∧ n129 * componentBytes .int ≤ 536870912 ∧ mc = mc130 + 1 ∧ ms = ms131 + n129 ∧ ∀ q127, w q127 = none → ∀ w128, w128 = fh_up w q127 (.inl (6, n129, .inl (fun _ => 0))) → (∃ fs132, w128 v0 = some (.inr (0, fs132)) ∧ 15 < fs132.length ∧ ∀ w133, w133 = fh_up w128 v0 (.inr (0, fs132.set 15 (.ref q127))) → (∃ n138 mc139 ms140, ¬ (4 : Int32) < 0 ∧ Int32.toNatClampNeg 4 = n138 ∧ n138 * componentBytes .long ≤ 536870912 ∧ mc130 = mc139 + 1 ∧ ms131 = ms140 + n138 ∧ ∀ q136, w133 q136 = none → ∀ w137, w137 = fh_up w133 q136 (.inl (2, n138, .inr (.inl (fun _ => 0)))) → (∃ fs141, w137 v0 = some (.inr (0, fs141)) ∧ 16 < fs141.length ∧ ∀ w142, w142 = fh_up w137 v0 (.inr (0, fs141.set 16 (.ref q136))) → (wKXM_init_129 post  w142 mc139 ms140 v0))))) := h
  refine lv_aload_n hx hb dXM_init_115 rfl (lv_at hl 0 rfl) ?_
  refine lv_iconst (v := 5) hx hb dXM_init_116 (by decide) ?_
  obtain ⟨n129, mc130, ms131, hn1, hn2, hn3, hm1, hm2, h⟩ := h
  refine kinew hx hb hts hK hE hP hS hA hn1 hn2 hn3 (show cells + 1 ≤ MC by omega) (show slots + n129 ≤ MS by omega) dXM_init_117 (fun q127 H hq hP hS => ?_)
  obtain ⟨w128, ew128⟩ : ∃ y, y = fh_up w q127 (.inl (6, n129, .inl (fun _ => 0))) := ⟨_, rfl⟩
  replace h := h q127 hq w128 ew128
  rw [← ew128] at hP
  replace hbc : cells + 1 + mc130 = MC := by omega
  replace hbs : slots + n129 + ms131 = MS := by omega
  obtain ⟨fs132, g134, g135, h⟩ := h
  obtain ⟨w133, ew133⟩ : ∃ y, y = fh_up w128 v0 (.inr (0, fs132.set 15 (.ref q127))) := ⟨_, rfl⟩
  replace h := h w133 ew133
  refine kf_XM_53 hin hx hb hown hts hN hK hP hS g134 g135 dXM_init_119 (fun H locs hP hS => ?_)
  rw [← ew133] at hP
  refine lv_aload_n hx hb dXM_init_122 rfl (lv_at hl 0 rfl) ?_
  refine lv_iconst (v := 4) hx hb dXM_init_123 (by decide) ?_
  obtain ⟨n138, mc139, ms140, hn1, hn2, hn3, hm1, hm2, h⟩ := h
  refine klnew hx hb hts hK hE hP hS hA hn1 hn2 hn3 (show cells + 1 + 1 ≤ MC by omega) (show slots + n129 + n138 ≤ MS by omega) dXM_init_124 (fun q136 H hq hP hS => ?_)
  obtain ⟨w137, ew137⟩ : ∃ y, y = fh_up w133 q136 (.inl (2, n138, .inr (.inl (fun _ => 0)))) := ⟨_, rfl⟩
  replace h := h q136 hq w137 ew137
  rw [← ew137] at hP
  replace hbc : cells + 1 + 1 + mc139 = MC := by omega
  replace hbs : slots + n129 + n138 + ms140 = MS := by omega
  obtain ⟨fs141, g143, g144, h⟩ := h
  obtain ⟨w142, ew142⟩ : ∃ y, y = fh_up w137 v0 (.inr (0, fs141.set 16 (.ref q136))) := ⟨_, rfl⟩
  replace h := h w142 ew142
  refine kf_XM_56 hin hx hb hown hts hN hK hP hS g143 g144 dXM_init_126 (fun H locs hP hS => ?_)
  rw [← ew142] at hP
  exact sKXM_init_129  C0  w142 mc139 ms140 v0 h H locs ls hP hS (lv_sub hl [0] rfl) _ _ hbc hbs
set_option maxRecDepth 100000 in
set_option maxHeartbeats 4000000 in
theorem sKXM_init_99 {p : Program} {l : Launch} {e : Env} {s : State} {m : MethodId} {args : Array Value} {below : List Frame} {meth : Method} {c : Code} {D : va_G} {ca : Nat → Nat} {A : Nat → Prop} {MC MS : Nat} {post : fh_T → Prop} (C0 : kCx p s m args meth c D ca A RXM cXM_init 1 none "<init>") : ∀ (w : fh_T) (mc : Nat) (ms : Nat) (v0 : Nat), wKXM_init_99 post  w mc ms v0 → ∀ (H : Heap) (locs : List Loc) (ls : Array Slot), fh_ok D ca A w H → va_S A s.heap H locs → lv_has ls 1 [(0, .ref v0)] → ∀ cells slots : Nat, cells + mc = MC → slots + ms = MS → W p l e ({ frames := 1, cells := MC, slots := MS, locals := 40 } : Room) s m args below meth c H locs cells slots (MQ below (va_Qv post (fxC (fh_ok D ca A)) A) args s MC MS A) (F0 m 99 ls []) := by
  obtain ⟨hx, hb, hr, hml, hown, hts, hlocks, hK, hN, hE, hA, hin⟩ := id C0
  intro w mc ms v0 h H locs ls hP hS hl cells slots hbc hbs
  replace h : (∃ n111 mc112 ms113, ¬ (120 : Int32) < 0 ∧ Int32.toNatClampNeg 120 = n111 ∧ n111 * componentBytes .int ≤ 536870912 ∧ mc = mc112 + 1 ∧ ms = ms113 + n111 ∧ ∀ q109, w q109 = none → ∀ w110, w110 = fh_up w q109 (.inl (6, n111, .inl (fun _ => 0))) → (∃ fs114, w110 v0 = some (.inr (0, fs114)) ∧ 13 < fs114.length ∧ ∀ w115, w115 = fh_up w110 v0 (.inr (0, fs114.set 13 (.ref q109))) → (∃ n120 mc121 ms122, ¬ (96 : Int32) < 0 ∧ Int32.toNatClampNeg 96 = n120 ∧ n120 * componentBytes .long ≤ 536870912 ∧ mc112 = mc121 + 1 ∧ ms113 = ms122 + n120 ∧ ∀ q118, w115 q118 = none → ∀ w119, w119 = fh_up w115 q118 (.inl (2, n120, .inr (.inl (fun _ => 0)))) → (∃ fs123, w119 v0 = some (.inr (0, fs123)) ∧ 14 < fs123.length ∧ ∀ w124, w124 = fh_up w119 v0 (.inr (0, fs123.set 14 (.ref q118))) → (wKXM_init_115 post  w124 mc121 ms122 v0))))) := h
  refine lv_aload_n hx hb dXM_init_99 rfl (lv_at hl 0 rfl) ?_
  refine lv_bipush (v := 120) hx hb dXM_init_100 (by decide) ?_
  obtain ⟨n111, mc112, ms113, hn1, hn2, hn3, hm1, hm2, h⟩ := h
  refine kinew hx hb hts hK hE hP hS hA hn1 hn2 hn3 (show cells + 1 ≤ MC by omega) (show slots + n111 ≤ MS by omega) dXM_init_102 (fun q109 H hq hP hS => ?_)
  obtain ⟨w110, ew110⟩ : ∃ y, y = fh_up w q109 (.inl (6, n111, .inl (fun _ => 0))) := ⟨_, rfl⟩
  replace h := h q109 hq w110 ew110
  rw [← ew110] at hP
  replace hbc : cells + 1 + mc112 = MC := by omega
  replace hbs : slots + n111 + ms113 = MS := by omega
  obtain ⟨fs114, g116, g117, h⟩ := h
  obtain ⟨w115, ew115⟩ : ∃ y, y = fh_up w110 v0 (.inr (0, fs114.set 13 (.ref q109))) := ⟨_, rfl⟩
  replace h := h w115 ew115
  refine kf_XM_47 hin hx hb hown hts hN hK hP hS g116 g117 dXM_init_104 (fun H locs hP hS => ?_)
  rw [← ew115] at hP
  refine lv_aload_n hx hb dXM_init_107 rfl (lv_at hl 0 rfl) ?_
  refine lv_bipush (v := 96) hx hb dXM_init_108 (by decide) ?_
  obtain ⟨n120, mc121, ms122, hn1, hn2, hn3, hm1, hm2, h⟩ := h
  refine klnew hx hb hts hK hE hP hS hA hn1 hn2 hn3 (show cells + 1 + 1 ≤ MC by omega) (show slots + n111 + n120 ≤ MS by omega) dXM_init_110 (fun q118 H hq hP hS => ?_)
  obtain ⟨w119, ew119⟩ : ∃ y, y = fh_up w115 q118 (.inl (2, n120, .inr (.inl (fun _ => 0)))) := ⟨_, rfl⟩
  replace h := h q118 hq w119 ew119
  rw [← ew119] at hP
  replace hbc : cells + 1 + 1 + mc121 = MC := by omega
  replace hbs : slots + n111 + n120 + ms122 = MS := by omega
  obtain ⟨fs123, g125, g126, h⟩ := h
  obtain ⟨w124, ew124⟩ : ∃ y, y = fh_up w119 v0 (.inr (0, fs123.set 14 (.ref q118))) := ⟨_, rfl⟩
  replace h := h w124 ew124
  refine kf_XM_50 hin hx hb hown hts hN hK hP hS g125 g126 dXM_init_112 (fun H locs hP hS => ?_)
  rw [← ew124] at hP
  exact sKXM_init_115  C0  w124 mc121 ms122 v0 h H locs ls hP hS (lv_sub hl [0] rfl) _ _ hbc hbs
set_option maxRecDepth 100000 in
set_option maxHeartbeats 4000000 in
theorem sKXM_init_84 {p : Program} {l : Launch} {e : Env} {s : State} {m : MethodId} {args : Array Value} {below : List Frame} {meth : Method} {c : Code} {D : va_G} {ca : Nat → Nat} {A : Nat → Prop} {MC MS : Nat} {post : fh_T → Prop} (C0 : kCx p s m args meth c D ca A RXM cXM_init 1 none "<init>") : ∀ (w : fh_T) (mc : Nat) (ms : Nat) (v0 : Nat), wKXM_init_84 post  w mc ms v0 → ∀ (H : Heap) (locs : List Loc) (ls : Array Slot), fh_ok D ca A w H → va_S A s.heap H locs → lv_has ls 1 [(0, .ref v0)] → ∀ cells slots : Nat, cells + mc = MC → slots + ms = MS → W p l e ({ frames := 1, cells := MC, slots := MS, locals := 40 } : Room) s m args below meth c H locs cells slots (MQ below (va_Qv post (fxC (fh_ok D ca A)) A) args s MC MS A) (F0 m 84 ls []) := by
  obtain ⟨hx, hb, hr, hml, hown, hts, hlocks, hK, hN, hE, hA, hin⟩ := id C0
  intro w mc ms v0 h H locs ls hP hS hl cells slots hbc hbs
  replace h : (∃ n93 mc94 ms95, ¬ (4 : Int32) < 0 ∧ Int32.toNatClampNeg 4 = n93 ∧ n93 * componentBytes .int ≤ 536870912 ∧ mc = mc94 + 1 ∧ ms = ms95 + n93 ∧ ∀ q91, w q91 = none → ∀ w92, w92 = fh_up w q91 (.inl (6, n93, .inl (fun _ => 0))) → (∃ fs96, w92 v0 = some (.inr (0, fs96)) ∧ 11 < fs96.length ∧ ∀ w97, w97 = fh_up w92 v0 (.inr (0, fs96.set 11 (.ref q91))) → (∃ n102 mc103 ms104, ¬ (24 : Int32) < 0 ∧ Int32.toNatClampNeg 24 = n102 ∧ n102 * componentBytes .long ≤ 536870912 ∧ mc94 = mc103 + 1 ∧ ms95 = ms104 + n102 ∧ ∀ q100, w97 q100 = none → ∀ w101, w101 = fh_up w97 q100 (.inl (2, n102, .inr (.inl (fun _ => 0)))) → (∃ fs105, w101 v0 = some (.inr (0, fs105)) ∧ 12 < fs105.length ∧ ∀ w106, w106 = fh_up w101 v0 (.inr (0, fs105.set 12 (.ref q100))) → (wKXM_init_99 post  w106 mc103 ms104 v0))))) := h
  refine lv_aload_n hx hb dXM_init_84 rfl (lv_at hl 0 rfl) ?_
  refine lv_iconst (v := 4) hx hb dXM_init_85 (by decide) ?_
  obtain ⟨n93, mc94, ms95, hn1, hn2, hn3, hm1, hm2, h⟩ := h
  refine kinew hx hb hts hK hE hP hS hA hn1 hn2 hn3 (show cells + 1 ≤ MC by omega) (show slots + n93 ≤ MS by omega) dXM_init_86 (fun q91 H hq hP hS => ?_)
  obtain ⟨w92, ew92⟩ : ∃ y, y = fh_up w q91 (.inl (6, n93, .inl (fun _ => 0))) := ⟨_, rfl⟩
  replace h := h q91 hq w92 ew92
  rw [← ew92] at hP
  replace hbc : cells + 1 + mc94 = MC := by omega
  replace hbs : slots + n93 + ms95 = MS := by omega
  obtain ⟨fs96, g98, g99, h⟩ := h
  obtain ⟨w97, ew97⟩ : ∃ y, y = fh_up w92 v0 (.inr (0, fs96.set 11 (.ref q91))) := ⟨_, rfl⟩
  replace h := h w97 ew97
  refine kf_XM_41 hin hx hb hown hts hN hK hP hS g98 g99 dXM_init_88 (fun H locs hP hS => ?_)
  rw [← ew97] at hP
  refine lv_aload_n hx hb dXM_init_91 rfl (lv_at hl 0 rfl) ?_
  refine lv_bipush (v := 24) hx hb dXM_init_92 (by decide) ?_
  obtain ⟨n102, mc103, ms104, hn1, hn2, hn3, hm1, hm2, h⟩ := h
  refine klnew hx hb hts hK hE hP hS hA hn1 hn2 hn3 (show cells + 1 + 1 ≤ MC by omega) (show slots + n93 + n102 ≤ MS by omega) dXM_init_94 (fun q100 H hq hP hS => ?_)
  obtain ⟨w101, ew101⟩ : ∃ y, y = fh_up w97 q100 (.inl (2, n102, .inr (.inl (fun _ => 0)))) := ⟨_, rfl⟩
  replace h := h q100 hq w101 ew101
  rw [← ew101] at hP
  replace hbc : cells + 1 + 1 + mc103 = MC := by omega
  replace hbs : slots + n93 + n102 + ms104 = MS := by omega
  obtain ⟨fs105, g107, g108, h⟩ := h
  obtain ⟨w106, ew106⟩ : ∃ y, y = fh_up w101 v0 (.inr (0, fs105.set 12 (.ref q100))) := ⟨_, rfl⟩
  replace h := h w106 ew106
  refine kf_XM_44 hin hx hb hown hts hN hK hP hS g107 g108 dXM_init_96 (fun H locs hP hS => ?_)
  rw [← ew106] at hP
  exact sKXM_init_99  C0  w106 mc103 ms104 v0 h H locs ls hP hS (lv_sub hl [0] rfl) _ _ hbc hbs
set_option maxRecDepth 100000 in
set_option maxHeartbeats 4000000 in
theorem sKXM_init_69 {p : Program} {l : Launch} {e : Env} {s : State} {m : MethodId} {args : Array Value} {below : List Frame} {meth : Method} {c : Code} {D : va_G} {ca : Nat → Nat} {A : Nat → Prop} {MC MS : Nat} {post : fh_T → Prop} (C0 : kCx p s m args meth c D ca A RXM cXM_init 1 none "<init>") : ∀ (w : fh_T) (mc : Nat) (ms : Nat) (v0 : Nat), wKXM_init_69 post  w mc ms v0 → ∀ (H : Heap) (locs : List Loc) (ls : Array Slot), fh_ok D ca A w H → va_S A s.heap H locs → lv_has ls 1 [(0, .ref v0)] → ∀ cells slots : Nat, cells + mc = MC → slots + ms = MS → W p l e ({ frames := 1, cells := MC, slots := MS, locals := 40 } : Room) s m args below meth c H locs cells slots (MQ below (va_Qv post (fxC (fh_ok D ca A)) A) args s MC MS A) (F0 m 69 ls []) := by
  obtain ⟨hx, hb, hr, hml, hown, hts, hlocks, hK, hN, hE, hA, hin⟩ := id C0
  intro w mc ms v0 h H locs ls hP hS hl cells slots hbc hbs
  replace h : (∃ n75 mc76 ms77, ¬ (40 : Int32) < 0 ∧ Int32.toNatClampNeg 40 = n75 ∧ n75 * componentBytes .int ≤ 536870912 ∧ mc = mc76 + 1 ∧ ms = ms77 + n75 ∧ ∀ q73, w q73 = none → ∀ w74, w74 = fh_up w q73 (.inl (6, n75, .inl (fun _ => 0))) → (∃ fs78, w74 v0 = some (.inr (0, fs78)) ∧ 9 < fs78.length ∧ ∀ w79, w79 = fh_up w74 v0 (.inr (0, fs78.set 9 (.ref q73))) → (∃ n84 mc85 ms86, ¬ (4 : Int32) < 0 ∧ Int32.toNatClampNeg 4 = n84 ∧ n84 * componentBytes .long ≤ 536870912 ∧ mc76 = mc85 + 1 ∧ ms77 = ms86 + n84 ∧ ∀ q82, w79 q82 = none → ∀ w83, w83 = fh_up w79 q82 (.inl (2, n84, .inr (.inl (fun _ => 0)))) → (∃ fs87, w83 v0 = some (.inr (0, fs87)) ∧ 10 < fs87.length ∧ ∀ w88, w88 = fh_up w83 v0 (.inr (0, fs87.set 10 (.ref q82))) → (wKXM_init_84 post  w88 mc85 ms86 v0))))) := h
  refine lv_aload_n hx hb dXM_init_69 rfl (lv_at hl 0 rfl) ?_
  refine lv_bipush (v := 40) hx hb dXM_init_70 (by decide) ?_
  obtain ⟨n75, mc76, ms77, hn1, hn2, hn3, hm1, hm2, h⟩ := h
  refine kinew hx hb hts hK hE hP hS hA hn1 hn2 hn3 (show cells + 1 ≤ MC by omega) (show slots + n75 ≤ MS by omega) dXM_init_72 (fun q73 H hq hP hS => ?_)
  obtain ⟨w74, ew74⟩ : ∃ y, y = fh_up w q73 (.inl (6, n75, .inl (fun _ => 0))) := ⟨_, rfl⟩
  replace h := h q73 hq w74 ew74
  rw [← ew74] at hP
  replace hbc : cells + 1 + mc76 = MC := by omega
  replace hbs : slots + n75 + ms77 = MS := by omega
  obtain ⟨fs78, g80, g81, h⟩ := h
  obtain ⟨w79, ew79⟩ : ∃ y, y = fh_up w74 v0 (.inr (0, fs78.set 9 (.ref q73))) := ⟨_, rfl⟩
  replace h := h w79 ew79
  refine kf_XM_35 hin hx hb hown hts hN hK hP hS g80 g81 dXM_init_74 (fun H locs hP hS => ?_)
  rw [← ew79] at hP
  refine lv_aload_n hx hb dXM_init_77 rfl (lv_at hl 0 rfl) ?_
  refine lv_iconst (v := 4) hx hb dXM_init_78 (by decide) ?_
  obtain ⟨n84, mc85, ms86, hn1, hn2, hn3, hm1, hm2, h⟩ := h
  refine klnew hx hb hts hK hE hP hS hA hn1 hn2 hn3 (show cells + 1 + 1 ≤ MC by omega) (show slots + n75 + n84 ≤ MS by omega) dXM_init_79 (fun q82 H hq hP hS => ?_)
  obtain ⟨w83, ew83⟩ : ∃ y, y = fh_up w79 q82 (.inl (2, n84, .inr (.inl (fun _ => 0)))) := ⟨_, rfl⟩
  replace h := h q82 hq w83 ew83
  rw [← ew83] at hP
  replace hbc : cells + 1 + 1 + mc85 = MC := by omega
  replace hbs : slots + n75 + n84 + ms86 = MS := by omega
  obtain ⟨fs87, g89, g90, h⟩ := h
  obtain ⟨w88, ew88⟩ : ∃ y, y = fh_up w83 v0 (.inr (0, fs87.set 10 (.ref q82))) := ⟨_, rfl⟩
  replace h := h w88 ew88
  refine kf_XM_38 hin hx hb hown hts hN hK hP hS g89 g90 dXM_init_81 (fun H locs hP hS => ?_)
  rw [← ew88] at hP
  exact sKXM_init_84  C0  w88 mc85 ms86 v0 h H locs ls hP hS (lv_sub hl [0] rfl) _ _ hbc hbs
set_option maxRecDepth 100000 in
set_option maxHeartbeats 4000000 in
theorem sKXM_init_52 {p : Program} {l : Launch} {e : Env} {s : State} {m : MethodId} {args : Array Value} {below : List Frame} {meth : Method} {c : Code} {D : va_G} {ca : Nat → Nat} {A : Nat → Prop} {MC MS : Nat} {post : fh_T → Prop} (C0 : kCx p s m args meth c D ca A RXM cXM_init 1 none "<init>") : ∀ (w : fh_T) (mc : Nat) (ms : Nat) (v0 : Nat), wKXM_init_52 post  w mc ms v0 → ∀ (H : Heap) (locs : List Loc) (ls : Array Slot), fh_ok D ca A w H → va_S A s.heap H locs → lv_has ls 1 [(0, .ref v0)] → ∀ cells slots : Nat, cells + mc = MC → slots + ms = MS → W p l e ({ frames := 1, cells := MC, slots := MS, locals := 40 } : Room) s m args below meth c H locs cells slots (MQ below (va_Qv post (fxC (fh_ok D ca A)) A) args s MC MS A) (F0 m 52 ls []) := by
  obtain ⟨hx, hb, hr, hml, hown, hts, hlocks, hK, hN, hE, hA, hin⟩ := id C0
  intro w mc ms v0 h H locs ls hP hS hl cells slots hbc hbs
  replace h : (∃ n57 mc58 ms59, ¬ (160 : Int32) < 0 ∧ Int32.toNatClampNeg 160 = n57 ∧ n57 * componentBytes .long ≤ 536870912 ∧ mc = mc58 + 1 ∧ ms = ms59 + n57 ∧ ∀ q55, w q55 = none → ∀ w56, w56 = fh_up w q55 (.inl (2, n57, .inr (.inl (fun _ => 0)))) → (∃ fs60, w56 v0 = some (.inr (0, fs60)) ∧ 7 < fs60.length ∧ ∀ w61, w61 = fh_up w56 v0 (.inr (0, fs60.set 7 (.ref q55))) → (∃ n66 mc67 ms68, ¬ (40 : Int32) < 0 ∧ Int32.toNatClampNeg 40 = n66 ∧ n66 * componentBytes .long ≤ 536870912 ∧ mc58 = mc67 + 1 ∧ ms59 = ms68 + n66 ∧ ∀ q64, w61 q64 = none → ∀ w65, w65 = fh_up w61 q64 (.inl (2, n66, .inr (.inl (fun _ => 0)))) → (∃ fs69, w65 v0 = some (.inr (0, fs69)) ∧ 8 < fs69.length ∧ ∀ w70, w70 = fh_up w65 v0 (.inr (0, fs69.set 8 (.ref q64))) → (wKXM_init_69 post  w70 mc67 ms68 v0))))) := h
  refine lv_aload_n hx hb dXM_init_52 rfl (lv_at hl 0 rfl) ?_
  refine lv_sipush (v := 160) hx hb dXM_init_53 (by decide) ?_
  obtain ⟨n57, mc58, ms59, hn1, hn2, hn3, hm1, hm2, h⟩ := h
  refine klnew hx hb hts hK hE hP hS hA hn1 hn2 hn3 (show cells + 1 ≤ MC by omega) (show slots + n57 ≤ MS by omega) dXM_init_56 (fun q55 H hq hP hS => ?_)
  obtain ⟨w56, ew56⟩ : ∃ y, y = fh_up w q55 (.inl (2, n57, .inr (.inl (fun _ => 0)))) := ⟨_, rfl⟩
  replace h := h q55 hq w56 ew56
  rw [← ew56] at hP
  replace hbc : cells + 1 + mc58 = MC := by omega
  replace hbs : slots + n57 + ms59 = MS := by omega
  obtain ⟨fs60, g62, g63, h⟩ := h
  obtain ⟨w61, ew61⟩ : ∃ y, y = fh_up w56 v0 (.inr (0, fs60.set 7 (.ref q55))) := ⟨_, rfl⟩
  replace h := h w61 ew61
  refine kf_XM_29 hin hx hb hown hts hN hK hP hS g62 g63 dXM_init_58 (fun H locs hP hS => ?_)
  rw [← ew61] at hP
  refine lv_aload_n hx hb dXM_init_61 rfl (lv_at hl 0 rfl) ?_
  refine lv_bipush (v := 40) hx hb dXM_init_62 (by decide) ?_
  obtain ⟨n66, mc67, ms68, hn1, hn2, hn3, hm1, hm2, h⟩ := h
  refine klnew hx hb hts hK hE hP hS hA hn1 hn2 hn3 (show cells + 1 + 1 ≤ MC by omega) (show slots + n57 + n66 ≤ MS by omega) dXM_init_64 (fun q64 H hq hP hS => ?_)
  obtain ⟨w65, ew65⟩ : ∃ y, y = fh_up w61 q64 (.inl (2, n66, .inr (.inl (fun _ => 0)))) := ⟨_, rfl⟩
  replace h := h q64 hq w65 ew65
  rw [← ew65] at hP
  replace hbc : cells + 1 + 1 + mc67 = MC := by omega
  replace hbs : slots + n57 + n66 + ms68 = MS := by omega
  obtain ⟨fs69, g71, g72, h⟩ := h
  obtain ⟨w70, ew70⟩ : ∃ y, y = fh_up w65 v0 (.inr (0, fs69.set 8 (.ref q64))) := ⟨_, rfl⟩
  replace h := h w70 ew70
  refine kf_XM_32 hin hx hb hown hts hN hK hP hS g71 g72 dXM_init_66 (fun H locs hP hS => ?_)
  rw [← ew70] at hP
  exact sKXM_init_69  C0  w70 mc67 ms68 v0 h H locs ls hP hS (lv_sub hl [0] rfl) _ _ hbc hbs
set_option maxRecDepth 100000 in
set_option maxHeartbeats 4000000 in
theorem sKXM_init_36 {p : Program} {l : Launch} {e : Env} {s : State} {m : MethodId} {args : Array Value} {below : List Frame} {meth : Method} {c : Code} {D : va_G} {ca : Nat → Nat} {A : Nat → Prop} {MC MS : Nat} {post : fh_T → Prop} (C0 : kCx p s m args meth c D ca A RXM cXM_init 1 none "<init>") : ∀ (w : fh_T) (mc : Nat) (ms : Nat) (v0 : Nat), wKXM_init_36 post  w mc ms v0 → ∀ (H : Heap) (locs : List Loc) (ls : Array Slot), fh_ok D ca A w H → va_S A s.heap H locs → lv_has ls 1 [(0, .ref v0)] → ∀ cells slots : Nat, cells + mc = MC → slots + ms = MS → W p l e ({ frames := 1, cells := MC, slots := MS, locals := 40 } : Room) s m args below meth c H locs cells slots (MQ below (va_Qv post (fxC (fh_ok D ca A)) A) args s MC MS A) (F0 m 36 ls []) := by
  obtain ⟨hx, hb, hr, hml, hown, hts, hlocks, hK, hN, hE, hA, hin⟩ := id C0
  intro w mc ms v0 h H locs ls hP hS hl cells slots hbc hbs
  replace h : (∃ n39 mc40 ms41, ¬ (40 : Int32) < 0 ∧ Int32.toNatClampNeg 40 = n39 ∧ n39 * componentBytes .int ≤ 536870912 ∧ mc = mc40 + 1 ∧ ms = ms41 + n39 ∧ ∀ q37, w q37 = none → ∀ w38, w38 = fh_up w q37 (.inl (6, n39, .inl (fun _ => 0))) → (∃ fs42, w38 v0 = some (.inr (0, fs42)) ∧ 5 < fs42.length ∧ ∀ w43, w43 = fh_up w38 v0 (.inr (0, fs42.set 5 (.ref q37))) → (∃ n48 mc49 ms50, ¬ (40 : Int32) < 0 ∧ Int32.toNatClampNeg 40 = n48 ∧ n48 * componentBytes .int ≤ 536870912 ∧ mc40 = mc49 + 1 ∧ ms41 = ms50 + n48 ∧ ∀ q46, w43 q46 = none → ∀ w47, w47 = fh_up w43 q46 (.inl (6, n48, .inl (fun _ => 0))) → (∃ fs51, w47 v0 = some (.inr (0, fs51)) ∧ 6 < fs51.length ∧ ∀ w52, w52 = fh_up w47 v0 (.inr (0, fs51.set 6 (.ref q46))) → (wKXM_init_52 post  w52 mc49 ms50 v0))))) := h
  refine lv_aload_n hx hb dXM_init_36 rfl (lv_at hl 0 rfl) ?_
  refine lv_bipush (v := 40) hx hb dXM_init_37 (by decide) ?_
  obtain ⟨n39, mc40, ms41, hn1, hn2, hn3, hm1, hm2, h⟩ := h
  refine kinew hx hb hts hK hE hP hS hA hn1 hn2 hn3 (show cells + 1 ≤ MC by omega) (show slots + n39 ≤ MS by omega) dXM_init_39 (fun q37 H hq hP hS => ?_)
  obtain ⟨w38, ew38⟩ : ∃ y, y = fh_up w q37 (.inl (6, n39, .inl (fun _ => 0))) := ⟨_, rfl⟩
  replace h := h q37 hq w38 ew38
  rw [← ew38] at hP
  replace hbc : cells + 1 + mc40 = MC := by omega
  replace hbs : slots + n39 + ms41 = MS := by omega
  obtain ⟨fs42, g44, g45, h⟩ := h
  obtain ⟨w43, ew43⟩ : ∃ y, y = fh_up w38 v0 (.inr (0, fs42.set 5 (.ref q37))) := ⟨_, rfl⟩
  replace h := h w43 ew43
  refine kf_XM_23 hin hx hb hown hts hN hK hP hS g44 g45 dXM_init_41 (fun H locs hP hS => ?_)
  rw [← ew43] at hP
  refine lv_aload_n hx hb dXM_init_44 rfl (lv_at hl 0 rfl) ?_
  refine lv_bipush (v := 40) hx hb dXM_init_45 (by decide) ?_
  obtain ⟨n48, mc49, ms50, hn1, hn2, hn3, hm1, hm2, h⟩ := h
  refine kinew hx hb hts hK hE hP hS hA hn1 hn2 hn3 (show cells + 1 + 1 ≤ MC by omega) (show slots + n39 + n48 ≤ MS by omega) dXM_init_47 (fun q46 H hq hP hS => ?_)
  obtain ⟨w47, ew47⟩ : ∃ y, y = fh_up w43 q46 (.inl (6, n48, .inl (fun _ => 0))) := ⟨_, rfl⟩
  replace h := h q46 hq w47 ew47
  rw [← ew47] at hP
  replace hbc : cells + 1 + 1 + mc49 = MC := by omega
  replace hbs : slots + n39 + n48 + ms50 = MS := by omega
  obtain ⟨fs51, g53, g54, h⟩ := h
  obtain ⟨w52, ew52⟩ : ∃ y, y = fh_up w47 v0 (.inr (0, fs51.set 6 (.ref q46))) := ⟨_, rfl⟩
  replace h := h w52 ew52
  refine kf_XM_26 hin hx hb hown hts hN hK hP hS g53 g54 dXM_init_49 (fun H locs hP hS => ?_)
  rw [← ew52] at hP
  exact sKXM_init_52  C0  w52 mc49 ms50 v0 h H locs ls hP hS (lv_sub hl [0] rfl) _ _ hbc hbs
set_option maxRecDepth 100000 in
set_option maxHeartbeats 4000000 in
theorem sKXM_init_20 {p : Program} {l : Launch} {e : Env} {s : State} {m : MethodId} {args : Array Value} {below : List Frame} {meth : Method} {c : Code} {D : va_G} {ca : Nat → Nat} {A : Nat → Prop} {MC MS : Nat} {post : fh_T → Prop} (C0 : kCx p s m args meth c D ca A RXM cXM_init 1 none "<init>") : ∀ (w : fh_T) (mc : Nat) (ms : Nat) (v0 : Nat), wKXM_init_20 post  w mc ms v0 → ∀ (H : Heap) (locs : List Loc) (ls : Array Slot), fh_ok D ca A w H → va_S A s.heap H locs → lv_has ls 1 [(0, .ref v0)] → ∀ cells slots : Nat, cells + mc = MC → slots + ms = MS → W p l e ({ frames := 1, cells := MC, slots := MS, locals := 40 } : Room) s m args below meth c H locs cells slots (MQ below (va_Qv post (fxC (fh_ok D ca A)) A) args s MC MS A) (F0 m 20 ls []) := by
  obtain ⟨hx, hb, hr, hml, hown, hts, hlocks, hK, hN, hE, hA, hin⟩ := id C0
  intro w mc ms v0 h H locs ls hP hS hl cells slots hbc hbs
  replace h : (∃ n21 mc22 ms23, ¬ (40 : Int32) < 0 ∧ Int32.toNatClampNeg 40 = n21 ∧ n21 * componentBytes .int ≤ 536870912 ∧ mc = mc22 + 1 ∧ ms = ms23 + n21 ∧ ∀ q19, w q19 = none → ∀ w20, w20 = fh_up w q19 (.inl (6, n21, .inl (fun _ => 0))) → (∃ fs24, w20 v0 = some (.inr (0, fs24)) ∧ 3 < fs24.length ∧ ∀ w25, w25 = fh_up w20 v0 (.inr (0, fs24.set 3 (.ref q19))) → (∃ n30 mc31 ms32, ¬ (40 : Int32) < 0 ∧ Int32.toNatClampNeg 40 = n30 ∧ n30 * componentBytes .int ≤ 536870912 ∧ mc22 = mc31 + 1 ∧ ms23 = ms32 + n30 ∧ ∀ q28, w25 q28 = none → ∀ w29, w29 = fh_up w25 q28 (.inl (6, n30, .inl (fun _ => 0))) → (∃ fs33, w29 v0 = some (.inr (0, fs33)) ∧ 4 < fs33.length ∧ ∀ w34, w34 = fh_up w29 v0 (.inr (0, fs33.set 4 (.ref q28))) → (wKXM_init_36 post  w34 mc31 ms32 v0))))) := h
  refine lv_aload_n hx hb dXM_init_20 rfl (lv_at hl 0 rfl) ?_
  refine lv_bipush (v := 40) hx hb dXM_init_21 (by decide) ?_
  obtain ⟨n21, mc22, ms23, hn1, hn2, hn3, hm1, hm2, h⟩ := h
  refine kinew hx hb hts hK hE hP hS hA hn1 hn2 hn3 (show cells + 1 ≤ MC by omega) (show slots + n21 ≤ MS by omega) dXM_init_23 (fun q19 H hq hP hS => ?_)
  obtain ⟨w20, ew20⟩ : ∃ y, y = fh_up w q19 (.inl (6, n21, .inl (fun _ => 0))) := ⟨_, rfl⟩
  replace h := h q19 hq w20 ew20
  rw [← ew20] at hP
  replace hbc : cells + 1 + mc22 = MC := by omega
  replace hbs : slots + n21 + ms23 = MS := by omega
  obtain ⟨fs24, g26, g27, h⟩ := h
  obtain ⟨w25, ew25⟩ : ∃ y, y = fh_up w20 v0 (.inr (0, fs24.set 3 (.ref q19))) := ⟨_, rfl⟩
  replace h := h w25 ew25
  refine kf_XM_17 hin hx hb hown hts hN hK hP hS g26 g27 dXM_init_25 (fun H locs hP hS => ?_)
  rw [← ew25] at hP
  refine lv_aload_n hx hb dXM_init_28 rfl (lv_at hl 0 rfl) ?_
  refine lv_bipush (v := 40) hx hb dXM_init_29 (by decide) ?_
  obtain ⟨n30, mc31, ms32, hn1, hn2, hn3, hm1, hm2, h⟩ := h
  refine kinew hx hb hts hK hE hP hS hA hn1 hn2 hn3 (show cells + 1 + 1 ≤ MC by omega) (show slots + n21 + n30 ≤ MS by omega) dXM_init_31 (fun q28 H hq hP hS => ?_)
  obtain ⟨w29, ew29⟩ : ∃ y, y = fh_up w25 q28 (.inl (6, n30, .inl (fun _ => 0))) := ⟨_, rfl⟩
  replace h := h q28 hq w29 ew29
  rw [← ew29] at hP
  replace hbc : cells + 1 + 1 + mc31 = MC := by omega
  replace hbs : slots + n21 + n30 + ms32 = MS := by omega
  obtain ⟨fs33, g35, g36, h⟩ := h
  obtain ⟨w34, ew34⟩ : ∃ y, y = fh_up w29 v0 (.inr (0, fs33.set 4 (.ref q28))) := ⟨_, rfl⟩
  replace h := h w34 ew34
  refine kf_XM_20 hin hx hb hown hts hN hK hP hS g35 g36 dXM_init_33 (fun H locs hP hS => ?_)
  rw [← ew34] at hP
  exact sKXM_init_36  C0  w34 mc31 ms32 v0 h H locs ls hP hS (lv_sub hl [0] rfl) _ _ hbc hbs
set_option maxRecDepth 100000 in
set_option maxHeartbeats 4000000 in
theorem sKXM_init_in {p : Program} {l : Launch} {e : Env} {s : State} {m : MethodId} {args : Array Value} {below : List Frame} {meth : Method} {c : Code} {D : va_G} {ca : Nat → Nat} {A : Nat → Prop} {MC MS : Nat} {post : fh_T → Prop} (C0 : kCx p s m args meth c D ca A RXM cXM_init 1 none "<init>") : ∀ (w : fh_T) (mc : Nat) (ms : Nat) (a0 : Nat), wKXM_init post w mc ms a0 → ∀ (H : Heap) (locs : List Loc) (ls : Array Slot), fh_ok D ca A w H → va_S A s.heap H locs → lv_has ls 1 [(0, .ref a0)] → ∀ cells slots : Nat, cells + mc = MC → slots + ms = MS → W p l e ({ frames := 1, cells := MC, slots := MS, locals := 40 } : Room) s m args below meth c H locs cells slots (MQ below (va_Qv post (fxC (fh_ok D ca A)) A) args s MC MS A) (F0 m 0 ls []) := by
  obtain ⟨hx, hb, hr, hml, hown, hts, hlocks, hK, hN, hE, hA, hin⟩ := id C0
  intro w mc ms a0 h H locs ls hP hS hl cells slots hbc hbs
  replace h : (∃ n3 mc4 ms5, ¬ (40 : Int32) < 0 ∧ Int32.toNatClampNeg 40 = n3 ∧ n3 * componentBytes .long ≤ 536870912 ∧ mc = mc4 + 1 ∧ ms = ms5 + n3 ∧ ∀ q1, w q1 = none → ∀ w2, w2 = fh_up w q1 (.inl (2, n3, .inr (.inl (fun _ => 0)))) → (∃ fs6, w2 a0 = some (.inr (0, fs6)) ∧ 1 < fs6.length ∧ ∀ w7, w7 = fh_up w2 a0 (.inr (0, fs6.set 1 (.ref q1))) → (∃ n12 mc13 ms14, ¬ (40 : Int32) < 0 ∧ Int32.toNatClampNeg 40 = n12 ∧ n12 * componentBytes .int ≤ 536870912 ∧ mc4 = mc13 + 1 ∧ ms5 = ms14 + n12 ∧ ∀ q10, w7 q10 = none → ∀ w11, w11 = fh_up w7 q10 (.inl (6, n12, .inl (fun _ => 0))) → (∃ fs15, w11 a0 = some (.inr (0, fs15)) ∧ 2 < fs15.length ∧ ∀ w16, w16 = fh_up w11 a0 (.inr (0, fs15.set 2 (.ref q10))) → (wKXM_init_20 post  w16 mc13 ms14 a0))))) := h
  refine lv_aload_n hx hb dXM_init_0 rfl (lv_at hl 0 rfl) ?_
  refine W.objInit hx hb hown (hts (.methodLink RXM 1 objectInit) (fx_m (by decide +kernel))) (hts (.instanceMethod objectInit) (fx_m (by decide +kernel))) (hts _ fx_objc) rfl (by rw [hml]; exact hl.1) rfl dXM_init_1 (Nat.le_of_ble_eq_true rfl) (Nat.le_of_ble_eq_true rfl) ?_
  refine lv_aload_n hx hb dXM_init_4 rfl (lv_at hl 0 rfl) ?_
  refine lv_bipush (v := 40) hx hb dXM_init_5 (by decide) ?_
  obtain ⟨n3, mc4, ms5, hn1, hn2, hn3, hm1, hm2, h⟩ := h
  refine klnew hx hb hts hK hE hP hS hA hn1 hn2 hn3 (show cells + 1 ≤ MC by omega) (show slots + n3 ≤ MS by omega) dXM_init_7 (fun q1 H hq hP hS => ?_)
  obtain ⟨w2, ew2⟩ : ∃ y, y = fh_up w q1 (.inl (2, n3, .inr (.inl (fun _ => 0)))) := ⟨_, rfl⟩
  replace h := h q1 hq w2 ew2
  rw [← ew2] at hP
  replace hbc : cells + 1 + mc4 = MC := by omega
  replace hbs : slots + n3 + ms5 = MS := by omega
  obtain ⟨fs6, g8, g9, h⟩ := h
  obtain ⟨w7, ew7⟩ : ∃ y, y = fh_up w2 a0 (.inr (0, fs6.set 1 (.ref q1))) := ⟨_, rfl⟩
  replace h := h w7 ew7
  refine kf_XM_7 hin hx hb hown hts hN hK hP hS g8 g9 dXM_init_9 (fun H locs hP hS => ?_)
  rw [← ew7] at hP
  refine lv_aload_n hx hb dXM_init_12 rfl (lv_at hl 0 rfl) ?_
  refine lv_bipush (v := 40) hx hb dXM_init_13 (by decide) ?_
  obtain ⟨n12, mc13, ms14, hn1, hn2, hn3, hm1, hm2, h⟩ := h
  refine kinew hx hb hts hK hE hP hS hA hn1 hn2 hn3 (show cells + 1 + 1 ≤ MC by omega) (show slots + n3 + n12 ≤ MS by omega) dXM_init_15 (fun q10 H hq hP hS => ?_)
  obtain ⟨w11, ew11⟩ : ∃ y, y = fh_up w7 q10 (.inl (6, n12, .inl (fun _ => 0))) := ⟨_, rfl⟩
  replace h := h q10 hq w11 ew11
  rw [← ew11] at hP
  replace hbc : cells + 1 + 1 + mc13 = MC := by omega
  replace hbs : slots + n3 + n12 + ms14 = MS := by omega
  obtain ⟨fs15, g17, g18, h⟩ := h
  obtain ⟨w16, ew16⟩ : ∃ y, y = fh_up w11 a0 (.inr (0, fs15.set 2 (.ref q10))) := ⟨_, rfl⟩
  replace h := h w16 ew16
  refine kf_XM_13 hin hx hb hown hts hN hK hP hS g17 g18 dXM_init_17 (fun H locs hP hS => ?_)
  rw [← ew16] at hP
  exact sKXM_init_20  C0  w16 mc13 ms14 a0 h H locs ls hP hS (lv_sub hl [0] rfl) _ _ hbc hbs
set_option maxRecDepth 100000 in
set_option maxHeartbeats 4000000 in
theorem cKXM_init {l : Launch} {D : va_G} {ca : Nat → Nat} {A : Nat → Prop} {post : fh_T → Prop} {w : fh_T} {mc : Nat} {ms : Nat} {a0 : Nat} (h : wKXM_init post w mc ms a0) : Met l yXM_init (.code yXM_init cXM_init 1 none :: lg_tbl) ({ frames := 1, cells := mc, slots := ms, locals := 40 } : Room) (va_Pc [.ref a0] (kB D ca A w)) (va_Qv post (fxC (fh_ok D ca A)) A) mc ms A := by
  refine fx_start (by decide +kernel) (Nat.le_of_ble_eq_true rfl) ?_
  intro p e s m below meth c ls hx hb hr hml hown hts hlocks hnm hB hl
  exact sKXM_init_in ⟨hx, hb, hr, hml, hown, hts, hlocks, hB.2.2.1, hB.2.2.2.1, hB.2.2.2.2, hB.2.1, hnm⟩ w mc ms a0 h _ _ ls hB.1 va_S.rf hl 0 0 (Nat.zero_add _) (Nat.zero_add _)
