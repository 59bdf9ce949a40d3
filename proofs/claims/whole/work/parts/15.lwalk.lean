noncomputable def wXLaw_18 (post : (Nat → Int32) × Nat × Nat) (n : Nat) : fh_T → Nat → Nat → (Nat → Nat → Int32) → (Nat → Nat → Int64) → Int32 → Int64 → Int32 → Int32 → Prop := Nat.rec (motive := fun _ => fh_T → Nat → Nat → (Nat → Nat → Int32) → (Nat → Nat → Int64) → Int32 → Int64 → Int32 → Int32 → Prop) (fun _ _ _ _ _ _ _ _ _ => False) (fun _ K18 w mc ms I J cn cm so v3 => ((((Int32.ofNat post.2.1) - 5) < v3 → True) ∧ (¬ ((Int32.ofNat post.2.1) - 5) < v3 → (vp_in v3 post.2.1 ∧ ((((post.1 (Int32.toNatClampNeg v3)) &&& 31) = 0 → (vp_in (v3 + 1) post.2.1 ∧ (vp_in (v3 + 2) post.2.1 ∧ (vp_in (v3 + 3) post.2.1 ∧ (vp_in (v3 + 4) post.2.1 ∧ (∃ fs8, w post.2.2 = some (.inr (1, fs8)) ∧ (∃ a10 b11 mc12 ms13, mc = mc12 + a10 ∧ ms = ms13 + b11 ∧ (wKXW_write (fun r7 w_7 => (vp_in (v3 + 1) post.2.1 ∧ (vp_in (v3 + 2) post.2.1 ∧ (vp_in (v3 + 3) post.2.1 ∧ (vp_in (v3 + 4) post.2.1 ∧ (wMwrite (fun r18 I_18 J_18 cn_18 cm_18 so_18 => ((r7 = r18 → (K18 w_7 mc12 ms13 I_18 J_18 cn_18 cm_18 so_18 (v3 + 5))) ∧ (¬ r7 = r18 → False))) I J cn cm so (post.1 (Int32.toNatClampNeg (v3 + 1))) (post.1 (Int32.toNatClampNeg (v3 + 2))) (post.1 (Int32.toNatClampNeg (v3 + 3))) (post.1 (Int32.toNatClampNeg (v3 + 4))))))))) w a10 b11 post.2.2 (post.1 (Int32.toNatClampNeg (v3 + 1))) (post.1 (Int32.toNatClampNeg (v3 + 2))) (post.1 (Int32.toNatClampNeg (v3 + 3))) (post.1 (Int32.toNatClampNeg (v3 + 4))))))))))) ∧ (((post.1 (Int32.toNatClampNeg v3)) &&& 31) = 1 → (vp_in (v3 + 1) post.2.1 ∧ (vp_in (v3 + 2) post.2.1 ∧ (vp_in (v3 + 3) post.2.1 ∧ (vp_in (v3 + 4) post.2.1 ∧ (∃ fs25, w post.2.2 = some (.inr (1, fs25)) ∧ (wKXW_draft (fun w_24 => (vp_in (v3 + 1) post.2.1 ∧ (vp_in (v3 + 2) post.2.1 ∧ (vp_in (v3 + 3) post.2.1 ∧ (vp_in (v3 + 4) post.2.1 ∧ (wMdraft (fun I_31 J_31 cn_31 cm_31 so_31 => (K18 w_24 mc ms I_31 J_31 cn_31 cm_31 so_31 (v3 + 5))) I J cn cm so (post.1 (Int32.toNatClampNeg (v3 + 1))) (post.1 (Int32.toNatClampNeg (v3 + 2))) (post.1 (Int32.toNatClampNeg (v3 + 3))) (post.1 (Int32.toNatClampNeg (v3 + 4))))))))) w post.2.2 (post.1 (Int32.toNatClampNeg (v3 + 1))) (post.1 (Int32.toNatClampNeg (v3 + 2))) (post.1 (Int32.toNatClampNeg (v3 + 3))) (post.1 (Int32.toNatClampNeg (v3 + 4)))))))))) ∧ (((post.1 (Int32.toNatClampNeg v3)) &&& 31) = 2 → (vp_in (v3 + 1) post.2.1 ∧ (vp_in (v3 + 2) post.2.1 ∧ (∃ fs35, w post.2.2 = some (.inr (1, fs35)) ∧ (wKXW_link (fun r34 w_34 => (vp_in (v3 + 1) post.2.1 ∧ (vp_in (v3 + 2) post.2.1 ∧ (wMlink (fun r39 I_39 J_39 cn_39 cm_39 so_39 => ((r34 = r39 → (K18 w_34 mc ms I_39 J_39 cn_39 cm_39 so_39 (v3 + 5))) ∧ (¬ r34 = r39 → False))) I J cn cm so ((hj_shl (Int32.toInt64 (post.1 (Int32.toNatClampNeg (v3 + 1)))) 32) ||| ((Int32.toInt64 (post.1 (Int32.toNatClampNeg (v3 + 2)))) &&& 4294967295)))))) w post.2.2 ((hj_shl (Int32.toInt64 (post.1 (Int32.toNatClampNeg (v3 + 1)))) 32) ||| ((Int32.toInt64 (post.1 (Int32.toNatClampNeg (v3 + 2)))) &&& 4294967295))))))) ∧ (((post.1 (Int32.toNatClampNeg v3)) &&& 31) = 3 → (∃ fs42, w post.2.2 = some (.inr (1, fs42)) ∧ (∃ a44 b45 mc46 ms47, mc = mc46 + a44 ∧ ms = ms47 + b45 ∧ (wKXW_draftHash (fun r41 w_41 => (wMdraftHash (fun r48 I_48 J_48 cn_48 cm_48 so_48 => (((lg_cmp r41 r48) = 0 → (K18 w_41 mc46 ms47 I_48 J_48 cn_48 cm_48 so_48 (v3 + 5))) ∧ (¬ (lg_cmp r41 r48) = 0 → False))) I J cn cm so )) w a44 b45 post.2.2 )))) ∧ (((post.1 (Int32.toNatClampNeg v3)) &&& 31) = 4 → (vp_in (v3 + 1) post.2.1 ∧ (∃ fs52, w post.2.2 = some (.inr (1, fs52)) ∧ (∃ a54 b55 mc56 ms57, mc = mc56 + a54 ∧ ms = ms57 + b55 ∧ (wKXW_offer (fun r51 w_51 => (vp_in (v3 + 1) post.2.1 ∧ (wMoffer (fun r59 I_59 J_59 cn_59 cm_59 so_59 => ((r51 = r59 → (K18 w_51 mc56 ms57 I_59 J_59 cn_59 cm_59 so_59 (v3 + 5))) ∧ (¬ r51 = r59 → False))) I J cn cm so (post.1 (Int32.toNatClampNeg (v3 + 1)))))) w a54 b55 post.2.2 (post.1 (Int32.toNatClampNeg (v3 + 1)))))))) ∧ (((post.1 (Int32.toNatClampNeg v3)) &&& 31) = 5 → (vp_in (v3 + 1) post.2.1 ∧ (vp_in (v3 + 2) post.2.1 ∧ (∃ fs64, w post.2.2 = some (.inr (1, fs64)) ∧ (∃ a66 b67 mc68 ms69, mc = mc68 + a66 ∧ ms = ms69 + b67 ∧ (wKXW_meet (fun r63 w_63 => (vp_in (v3 + 1) post.2.1 ∧ (vp_in (v3 + 2) post.2.1 ∧ (wMmeet (fun r72 I_72 J_72 cn_72 cm_72 so_72 => ((r63 = r72 → (K18 w_63 mc68 ms69 I_72 J_72 cn_72 cm_72 so_72 (v3 + 5))) ∧ (¬ r63 = r72 → False))) I J cn cm so (post.1 (Int32.toNatClampNeg (v3 + 1))) (post.1 (Int32.toNatClampNeg (v3 + 2))))))) w a66 b67 post.2.2 (post.1 (Int32.toNatClampNeg (v3 + 1))) (post.1 (Int32.toNatClampNeg (v3 + 2))))))))) ∧ (((post.1 (Int32.toNatClampNeg v3)) &&& 31) = 6 → (vp_in (v3 + 1) post.2.1 ∧ (∃ fs76, w post.2.2 = some (.inr (1, fs76)) ∧ (wKXW_drop (fun r75 w_75 => (vp_in (v3 + 1) post.2.1 ∧ (wMdrop (fun r79 I_79 J_79 cn_79 cm_79 so_79 => ((r75 = r79 → (K18 w_75 mc ms I_79 J_79 cn_79 cm_79 so_79 (v3 + 5))) ∧ (¬ r75 = r79 → False))) I J cn cm so (post.1 (Int32.toNatClampNeg (v3 + 1)))))) w post.2.2 (post.1 (Int32.toNatClampNeg (v3 + 1))))))) ∧ (((post.1 (Int32.toNatClampNeg v3)) &&& 31) = 7 → (vp_in (v3 + 1) post.2.1 ∧ (∃ fs83, w post.2.2 = some (.inr (1, fs83)) ∧ (wKXW_held (fun r82 w_82 => (vp_in (v3 + 1) post.2.1 ∧ (wMheld (fun r86 I_86 J_86 cn_86 cm_86 so_86 => ((r82 = r86 → (K18 w_82 mc ms I_86 J_86 cn_86 cm_86 so_86 (v3 + 5))) ∧ (¬ r82 = r86 → False))) I J cn cm so (post.1 (Int32.toNatClampNeg (v3 + 1)))))) w post.2.2 (post.1 (Int32.toNatClampNeg (v3 + 1))))))) ∧ (((post.1 (Int32.toNatClampNeg v3)) &&& 31) = 8 → (vp_in (v3 + 1) post.2.1 ∧ (∃ fs90, w post.2.2 = some (.inr (1, fs90)) ∧ (wKXW_waiting (fun r89 w_89 => (vp_in (v3 + 1) post.2.1 ∧ (wMwaiting (fun r93 I_93 J_93 cn_93 cm_93 so_93 => ((r89 = r93 → (K18 w_89 mc ms I_93 J_93 cn_93 cm_93 so_93 (v3 + 5))) ∧ (¬ r89 = r93 → False))) I J cn cm so (post.1 (Int32.toNatClampNeg (v3 + 1)))))) w post.2.2 (post.1 (Int32.toNatClampNeg (v3 + 1))))))) ∧ (((post.1 (Int32.toNatClampNeg v3)) &&& 31) = 9 → (vp_in (v3 + 1) post.2.1 ∧ (vp_in (v3 + 2) post.2.1 ∧ (vp_in (v3 + 3) post.2.1 ∧ (∃ fs99, w post.2.2 = some (.inr (1, fs99)) ∧ (wKXW_has (fun r98 w_98 => (vp_in (v3 + 1) post.2.1 ∧ (vp_in (v3 + 2) post.2.1 ∧ (vp_in (v3 + 3) post.2.1 ∧ (wMhas (fun r104 I_104 J_104 cn_104 cm_104 so_104 => ((r98 = r104 → (K18 w_98 mc ms I_104 J_104 cn_104 cm_104 so_104 (v3 + 5))) ∧ (¬ r98 = r104 → False))) I J cn cm so (post.1 (Int32.toNatClampNeg (v3 + 1))) ((hj_shl (Int32.toInt64 (post.1 (Int32.toNatClampNeg (v3 + 2)))) 32) ||| ((Int32.toInt64 (post.1 (Int32.toNatClampNeg (v3 + 3)))) &&& 4294967295))))))) w post.2.2 (post.1 (Int32.toNatClampNeg (v3 + 1))) ((hj_shl (Int32.toInt64 (post.1 (Int32.toNatClampNeg (v3 + 2)))) 32) ||| ((Int32.toInt64 (post.1 (Int32.toNatClampNeg (v3 + 3)))) &&& 4294967295)))))))) ∧ (((post.1 (Int32.toNatClampNeg v3)) &&& 31) = 10 → (vp_in (v3 + 1) post.2.1 ∧ (vp_in (v3 + 2) post.2.1 ∧ (∃ fs109, w post.2.2 = some (.inr (1, fs109)) ∧ (wKXW_hashAt (fun r108 w_108 => (vp_in (v3 + 1) post.2.1 ∧ (vp_in (v3 + 2) post.2.1 ∧ (wMhashAt (fun r113 I_113 J_113 cn_113 cm_113 so_113 => (((lg_cmp r108 r113) = 0 → (K18 w_108 mc ms I_113 J_113 cn_113 cm_113 so_113 (v3 + 5))) ∧ (¬ (lg_cmp r108 r113) = 0 → False))) I J cn cm so (post.1 (Int32.toNatClampNeg (v3 + 1))) (post.1 (Int32.toNatClampNeg (v3 + 2))))))) w post.2.2 (post.1 (Int32.toNatClampNeg (v3 + 1))) (post.1 (Int32.toNatClampNeg (v3 + 2)))))))) ∧ (((post.1 (Int32.toNatClampNeg v3)) &&& 31) = 11 → (vp_in (v3 + 1) post.2.1 ∧ (vp_in (v3 + 2) post.2.1 ∧ (vp_in (v3 + 3) post.2.1 ∧ (∃ fs119, w post.2.2 = some (.inr (1, fs119)) ∧ (wKXW_about (fun r118 w_118 => (vp_in (v3 + 1) post.2.1 ∧ (vp_in (v3 + 2) post.2.1 ∧ (vp_in (v3 + 3) post.2.1 ∧ (wMabout (fun r124 I_124 J_124 cn_124 cm_124 so_124 => ((r118 = r124 → (K18 w_118 mc ms I_124 J_124 cn_124 cm_124 so_124 (v3 + 5))) ∧ (¬ r118 = r124 → False))) I J cn cm so (post.1 (Int32.toNatClampNeg (v3 + 1))) (post.1 (Int32.toNatClampNeg (v3 + 2))) (post.1 (Int32.toNatClampNeg (v3 + 3)))))))) w post.2.2 (post.1 (Int32.toNatClampNeg (v3 + 1))) (post.1 (Int32.toNatClampNeg (v3 + 2))) (post.1 (Int32.toNatClampNeg (v3 + 3))))))))) ∧ (((post.1 (Int32.toNatClampNeg v3)) &&& 31) = 12 → (vp_in (v3 + 1) post.2.1 ∧ (vp_in (v3 + 2) post.2.1 ∧ (vp_in (v3 + 3) post.2.1 ∧ (∃ fs130, w post.2.2 = some (.inr (1, fs130)) ∧ (wKXW_linkAt (fun r129 w_129 => (vp_in (v3 + 1) post.2.1 ∧ (vp_in (v3 + 2) post.2.1 ∧ (vp_in (v3 + 3) post.2.1 ∧ (wMlinkAt (fun r135 I_135 J_135 cn_135 cm_135 so_135 => (((lg_cmp r129 r135) = 0 → (K18 w_129 mc ms I_135 J_135 cn_135 cm_135 so_135 (v3 + 5))) ∧ (¬ (lg_cmp r129 r135) = 0 → False))) I J cn cm so (post.1 (Int32.toNatClampNeg (v3 + 1))) (post.1 (Int32.toNatClampNeg (v3 + 2))) (post.1 (Int32.toNatClampNeg (v3 + 3)))))))) w post.2.2 (post.1 (Int32.toNatClampNeg (v3 + 1))) (post.1 (Int32.toNatClampNeg (v3 + 2))) (post.1 (Int32.toNatClampNeg (v3 + 3))))))))) ∧ (((post.1 (Int32.toNatClampNeg v3)) &&& 31) = 13 → (vp_in (v3 + 1) post.2.1 ∧ (∃ fs139, w post.2.2 = some (.inr (1, fs139)) ∧ (wKXW_heads (fun r138 w_138 => (vp_in (v3 + 1) post.2.1 ∧ (wMheads (fun r142 I_142 J_142 cn_142 cm_142 so_142 => ((r138 = r142 → (K18 w_138 mc ms I_142 J_142 cn_142 cm_142 so_142 (v3 + 5))) ∧ (¬ r138 = r142 → False))) I J cn cm so (post.1 (Int32.toNatClampNeg (v3 + 1)))))) w post.2.2 (post.1 (Int32.toNatClampNeg (v3 + 1))))))) ∧ (((post.1 (Int32.toNatClampNeg v3)) &&& 31) = 14 → (vp_in (v3 + 1) post.2.1 ∧ (vp_in (v3 + 2) post.2.1 ∧ (∃ fs147, w post.2.2 = some (.inr (1, fs147)) ∧ (wKXW_headAt (fun r146 w_146 => (vp_in (v3 + 1) post.2.1 ∧ (vp_in (v3 + 2) post.2.1 ∧ (wMheadAt (fun r151 I_151 J_151 cn_151 cm_151 so_151 => (((lg_cmp r146 r151) = 0 → (K18 w_146 mc ms I_151 J_151 cn_151 cm_151 so_151 (v3 + 5))) ∧ (¬ (lg_cmp r146 r151) = 0 → False))) I J cn cm so (post.1 (Int32.toNatClampNeg (v3 + 1))) (post.1 (Int32.toNatClampNeg (v3 + 2))))))) w post.2.2 (post.1 (Int32.toNatClampNeg (v3 + 1))) (post.1 (Int32.toNatClampNeg (v3 + 2)))))))) ∧ (((post.1 (Int32.toNatClampNeg v3)) &&& 31) = 15 → (vp_in (v3 + 1) post.2.1 ∧ (vp_in (v3 + 2) post.2.1 ∧ (∃ fs156, w post.2.2 = some (.inr (1, fs156)) ∧ (wKXW_value (fun r155 w_155 => (vp_in (v3 + 1) post.2.1 ∧ (vp_in (v3 + 2) post.2.1 ∧ (wMvalue (fun r160 I_160 J_160 cn_160 cm_160 so_160 => ((r155 = r160 → (K18 w_155 mc ms I_160 J_160 cn_160 cm_160 so_160 (v3 + 5))) ∧ (¬ r155 = r160 → False))) I J cn cm so (post.1 (Int32.toNatClampNeg (v3 + 1))) (post.1 (Int32.toNatClampNeg (v3 + 2))))))) w post.2.2 (post.1 (Int32.toNatClampNeg (v3 + 1))) (post.1 (Int32.toNatClampNeg (v3 + 2)))))))) ∧ (((post.1 (Int32.toNatClampNeg v3)) &&& 31) = 16 → (∃ fs163, w post.2.2 = some (.inr (1, fs163)) ∧ (wKXW_all (fun r162 w_162 => (wMall (fun r165 I_165 J_165 cn_165 cm_165 so_165 => ((r162 = r165 → (K18 w_162 mc ms I_165 J_165 cn_165 cm_165 so_165 (v3 + 5))) ∧ (¬ r162 = r165 → False))) I J cn cm so )) w post.2.2 ))) ∧ (¬ ((post.1 (Int32.toNatClampNeg v3)) &&& 31) = 0 ∧ ¬ ((post.1 (Int32.toNatClampNeg v3)) &&& 31) = 1 ∧ ¬ ((post.1 (Int32.toNatClampNeg v3)) &&& 31) = 2 ∧ ¬ ((post.1 (Int32.toNatClampNeg v3)) &&& 31) = 3 ∧ ¬ ((post.1 (Int32.toNatClampNeg v3)) &&& 31) = 4 ∧ ¬ ((post.1 (Int32.toNatClampNeg v3)) &&& 31) = 5 ∧ ¬ ((post.1 (Int32.toNatClampNeg v3)) &&& 31) = 6 ∧ ¬ ((post.1 (Int32.toNatClampNeg v3)) &&& 31) = 7 ∧ ¬ ((post.1 (Int32.toNatClampNeg v3)) &&& 31) = 8 ∧ ¬ ((post.1 (Int32.toNatClampNeg v3)) &&& 31) = 9 ∧ ¬ ((post.1 (Int32.toNatClampNeg v3)) &&& 31) = 10 ∧ ¬ ((post.1 (Int32.toNatClampNeg v3)) &&& 31) = 11 ∧ ¬ ((post.1 (Int32.toNatClampNeg v3)) &&& 31) = 12 ∧ ¬ ((post.1 (Int32.toNatClampNeg v3)) &&& 31) = 13 ∧ ¬ ((post.1 (Int32.toNatClampNeg v3)) &&& 31) = 14 ∧ ¬ ((post.1 (Int32.toNatClampNeg v3)) &&& 31) = 15 ∧ ¬ ((post.1 (Int32.toNatClampNeg v3)) &&& 31) = 16 → (K18 w mc ms I J cn cm so (v3 + 5)))))))) n
set_option maxRecDepth 100000 in
set_option maxHeartbeats 4000000 in
theorem sXLaw_18 {p : Program} {l : Launch} {e : Env} {s : State} {m : MethodId} {below : List Frame} {meth : Method} {c : Code} {D : va_G} {ca : Nat → Nat} {b h0 : Nat} {ad : Nat → Nat} {post : (Nat → Int32) × Nat × Nat} (C0 : lCx p s m meth c D ca b post) : ∀ (n : Nat) (w : fh_T) (mc : Nat) (ms : Nat) (I : Nat → Nat → Int32) (J : Nat → Nat → Int64) (cn : Int32) (cm : Int64) (so : Int32) (v3 : Int32), wXLaw_18 post  n w mc ms I J cn cm so v3 → ∀ (H : Heap) (locs : List Loc) (ls : Array Slot), lW D ca (fun q : Nat => s.heap.size ≤ q) h0 ad w (I, J, cn, cm, so) H → va_S (fun q : Nat => s.heap.size ≤ q) s.heap H locs → lv_has ls 4 [(0, .ref b), (1, .ref post.2.2), (2, .ref h0), (3, .int v3)] → ∀ cells slots : Nat, cells + mc = 600000 → slots + ms = 7302250 → W p l e room_1 s m #[Value.ref b] below meth c H locs cells slots (lw_Z below #[Value.ref b] s) (F0 m 18 ls []) := by
  obtain ⟨⟨hx, hb, hr, hml, hown, hts0, hX, hbl, hlocks, hgv⟩, hK, hN, hE⟩ := id C0
  have hts : ∀ w ∈ lg_tbl, w.before #[Value.ref b] s = true := fun w h => hts0 w (List.mem_filter.mp h).1
  have hbA : ¬ (fun q : Nat => s.heap.size ≤ q) b := Nat.not_le.mpr hbl
  intro n
  induction n with
  | zero => exact fun _ _ _ _ _ _ _ _ _ h => h.elim
  | succ n hK18 =>
    intro w mc ms I J cn cm so v3 h H locs ls hP hS hl cells slots hbc hbs
    replace h : ((((Int32.ofNat post.2.1) - 5) < v3 → True) ∧ (¬ ((Int32.ofNat post.2.1) - 5) < v3 → (vp_in v3 post.2.1 ∧ ((((post.1 (Int32.toNatClampNeg v3)) &&& 31) = 0 → (vp_in (v3 + 1) post.2.1 ∧ (vp_in (v3 + 2) post.2.1 ∧ (vp_in (v3 + 3) post.2.1 ∧ (vp_in (v3 + 4) post.2.1 ∧ (∃ fs8, w post.2.2 = some (.inr (1, fs8)) ∧ (∃ a10 b11 mc12 ms13, mc = mc12 + a10 ∧ ms = ms13 + b11 ∧ (wKXW_write (fun r7 w_7 => (vp_in (v3 + 1) post.2.1 ∧ (vp_in (v3 + 2) post.2.1 ∧ (vp_in (v3 + 3) post.2.1 ∧ (vp_in (v3 + 4) post.2.1 ∧ (wMwrite (fun r18 I_18 J_18 cn_18 cm_18 so_18 => ((r7 = r18 → ((wXLaw_18 post  n) w_7 mc12 ms13 I_18 J_18 cn_18 cm_18 so_18 (v3 + 5))) ∧ (¬ r7 = r18 → False))) I J cn cm so (post.1 (Int32.toNatClampNeg (v3 + 1))) (post.1 (Int32.toNatClampNeg (v3 + 2))) (post.1 (Int32.toNatClampNeg (v3 + 3))) (post.1 (Int32.toNatClampNeg (v3 + 4))))))))) w a10 b11 post.2.2 (post.1 (Int32.toNatClampNeg (v3 + 1))) (post.1 (Int32.toNatClampNeg (v3 + 2))) (post.1 (Int32.toNatClampNeg (v3 + 3))) (post.1 (Int32.toNatClampNeg (v3 + 4))))))))))) ∧ (((post.1 (Int32.toNatClampNeg v3)) &&& 31) = 1 → (vp_in (v3 + 1) post.2.1 ∧ (vp_in (v3 + 2) post.2.1 ∧ (vp_in (v3 + 3) post.2.1 ∧ (vp_in (v3 + 4) post.2.1 ∧ (∃ fs25, w post.2.2 = some (.inr (1, fs25)) ∧ (wKXW_draft (fun w_24 => (vp_in (v3 + 1) post.2.1 ∧ (vp_in (v3 + 2) post.2.1 ∧ (vp_in (v3 + 3) post.2.1 ∧ (vp_in (v3 + 4) post.2.1 ∧ (wMdraft (fun I_31 J_31 cn_31 cm_31 so_31 => ((wXLaw_18 post  n) w_24 mc ms I_31 J_31 cn_31 cm_31 so_31 (v3 + 5))) I J cn cm so (post.1 (Int32.toNatClampNeg (v3 + 1))) (post.1 (Int32.toNatClampNeg (v3 + 2))) (post.1 (Int32.toNatClampNeg (v3 + 3))) (post.1 (Int32.toNatClampNeg (v3 + 4))))))))) w post.2.2 (post.1 (Int32.toNatClampNeg (v3 + 1))) (post.1 (Int32.toNatClampNeg (v3 + 2))) (post.1 (Int32.toNatClampNeg (v3 + 3))) (post.1 (Int32.toNatClampNeg (v3 + 4)))))))))) ∧ (((post.1 (Int32.toNatClampNeg v3)) &&& 31) = 2 → (vp_in (v3 + 1) post.2.1 ∧ (vp_in (v3 + 2) post.2.1 ∧ (∃ fs35, w post.2.2 = some (.inr (1, fs35)) ∧ (wKXW_link (fun r34 w_34 => (vp_in (v3 + 1) post.2.1 ∧ (vp_in (v3 + 2) post.2.1 ∧ (wMlink (fun r39 I_39 J_39 cn_39 cm_39 so_39 => ((r34 = r39 → ((wXLaw_18 post  n) w_34 mc ms I_39 J_39 cn_39 cm_39 so_39 (v3 + 5))) ∧ (¬ r34 = r39 → False))) I J cn cm so ((hj_shl (Int32.toInt64 (post.1 (Int32.toNatClampNeg (v3 + 1)))) 32) ||| ((Int32.toInt64 (post.1 (Int32.toNatClampNeg (v3 + 2)))) &&& 4294967295)))))) w post.2.2 ((hj_shl (Int32.toInt64 (post.1 (Int32.toNatClampNeg (v3 + 1)))) 32) ||| ((Int32.toInt64 (post.1 (Int32.toNatClampNeg (v3 + 2)))) &&& 4294967295))))))) ∧ (((post.1 (Int32.toNatClampNeg v3)) &&& 31) = 3 → (∃ fs42, w post.2.2 = some (.inr (1, fs42)) ∧ (∃ a44 b45 mc46 ms47, mc = mc46 + a44 ∧ ms = ms47 + b45 ∧ (wKXW_draftHash (fun r41 w_41 => (wMdraftHash (fun r48 I_48 J_48 cn_48 cm_48 so_48 => (((lg_cmp r41 r48) = 0 → ((wXLaw_18 post  n) w_41 mc46 ms47 I_48 J_48 cn_48 cm_48 so_48 (v3 + 5))) ∧ (¬ (lg_cmp r41 r48) = 0 → False))) I J cn cm so )) w a44 b45 post.2.2 )))) ∧ (((post.1 (Int32.toNatClampNeg v3)) &&& 31) = 4 → (vp_in (v3 + 1) post.2.1 ∧ (∃ fs52, w post.2.2 = some (.inr (1, fs52)) ∧ (∃ a54 b55 mc56 ms57, mc = mc56 + a54 ∧ ms = ms57 + b55 ∧ (wKXW_offer (fun r51 w_51 => (vp_in (v3 + 1) post.2.1 ∧ (wMoffer (fun r59 I_59 J_59 cn_59 cm_59 so_59 => ((r51 = r59 → ((wXLaw_18 post  n) w_51 mc56 ms57 I_59 J_59 cn_59 cm_59 so_59 (v3 + 5))) ∧ (¬ r51 = r59 → False))) I J cn cm so (post.1 (Int32.toNatClampNeg (v3 + 1)))))) w a54 b55 post.2.2 (post.1 (Int32.toNatClampNeg (v3 + 1)))))))) ∧ (((post.1 (Int32.toNatClampNeg v3)) &&& 31) = 5 → (vp_in (v3 + 1) post.2.1 ∧ (vp_in (v3 + 2) post.2.1 ∧ (∃ fs64, w post.2.2 = some (.inr (1, fs64)) ∧ (∃ a66 b67 mc68 ms69, mc = mc68 + a66 ∧ ms = ms69 + b67 ∧ (wKXW_meet (fun r63 w_63 => (vp_in (v3 + 1) post.2.1 ∧ (vp_in (v3 + 2) post.2.1 ∧ (wMmeet (fun r72 I_72 J_72 cn_72 cm_72 so_72 => ((r63 = r72 → ((wXLaw_18 post  n) w_63 mc68 ms69 I_72 J_72 cn_72 cm_72 so_72 (v3 + 5))) ∧ (¬ r63 = r72 → False))) I J cn cm so (post.1 (Int32.toNatClampNeg (v3 + 1))) (post.1 (Int32.toNatClampNeg (v3 + 2))))))) w a66 b67 post.2.2 (post.1 (Int32.toNatClampNeg (v3 + 1))) (post.1 (Int32.toNatClampNeg (v3 + 2))))))))) ∧ (((post.1 (Int32.toNatClampNeg v3)) &&& 31) = 6 → (vp_in (v3 + 1) post.2.1 ∧ (∃ fs76, w post.2.2 = some (.inr (1, fs76)) ∧ (wKXW_drop (fun r75 w_75 => (vp_in (v3 + 1) post.2.1 ∧ (wMdrop (fun r79 I_79 J_79 cn_79 cm_79 so_79 => ((r75 = r79 → ((wXLaw_18 post  n) w_75 mc ms I_79 J_79 cn_79 cm_79 so_79 (v3 + 5))) ∧ (¬ r75 = r79 → False))) I J cn cm so (post.1 (Int32.toNatClampNeg (v3 + 1)))))) w post.2.2 (post.1 (Int32.toNatClampNeg (v3 + 1))))))) ∧ (((post.1 (Int32.toNatClampNeg v3)) &&& 31) = 7 → (vp_in (v3 + 1) post.2.1 ∧ (∃ fs83, w post.2.2 = some (.inr (1, fs83)) ∧ (wKXW_held (fun r82 w_82 => (vp_in (v3 + 1) post.2.1 ∧ (wMheld (fun r86 I_86 J_86 cn_86 cm_86 so_86 => ((r82 = r86 → ((wXLaw_18 post  n) w_82 mc ms I_86 J_86 cn_86 cm_86 so_86 (v3 + 5))) ∧ (¬ r82 = r86 → False))) I J cn cm so (post.1 (Int32.toNatClampNeg (v3 + 1)))))) w post.2.2 (post.1 (Int32.toNatClampNeg (v3 + 1))))))) ∧ (((post.1 (Int32.toNatClampNeg v3)) &&& 31) = 8 → (vp_in (v3 + 1) post.2.1 ∧ (∃ fs90, w post.2.2 = some (.inr (1, fs90)) ∧ (wKXW_waiting (fun r89 w_89 => (vp_in (v3 + 1) post.2.1 ∧ (wMwaiting (fun r93 I_93 J_93 cn_93 cm_93 so_93 => ((r89 = r93 → ((wXLaw_18 post  n) w_89 mc ms I_93 J_93 cn_93 cm_93 so_93 (v3 + 5))) ∧ (¬ r89 = r93 → False))) I J cn cm so (post.1 (Int32.toNatClampNeg (v3 + 1)))))) w post.2.2 (post.1 (Int32.toNatClampNeg (v3 + 1))))))) ∧ (((post.1 (Int32.toNatClampNeg v3)) &&& 31) = 9 → (vp_in (v3 + 1) post.2.1 ∧ (vp_in (v3 + 2) post.2.1 ∧ (vp_in (v3 + 3) post.2.1 ∧ (∃ fs99, w post.2.2 = some (.inr (1, fs99)) ∧ (wKXW_has (fun r98 w_98 => (vp_in (v3 + 1) post.2.1 ∧ (vp_in (v3 + 2) post.2.1 ∧ (vp_in (v3 + 3) post.2.1 ∧ (wMhas (fun r104 I_104 J_104 cn_104 cm_104 so_104 => ((r98 = r104 → ((wXLaw_18 post  n) w_98 mc ms I_104 J_104 cn_104 cm_104 so_104 (v3 + 5))) ∧ (¬ r98 = r104 → False))) I J cn cm so (post.1 (Int32.toNatClampNeg (v3 + 1))) ((hj_shl (Int32.toInt64 (post.1 (Int32.toNatClampNeg (v3 + 2)))) 32) ||| ((Int32.toInt64 (post.1 (Int32.toNatClampNeg (v3 + 3)))) &&& 4294967295))))))) w post.2.2 (post.1 (Int32.toNatClampNeg (v3 + 1))) ((hj_shl (Int32.toInt64 (post.1 (Int32.toNatClampNeg (v3 + 2)))) 32) ||| ((Int32.toInt64 (post.1 (Int32.toNatClampNeg (v3 + 3)))) &&& 4294967295)))))))) ∧ (((post.1 (Int32.toNatClampNeg v3)) &&& 31) = 10 → (vp_in (v3 + 1) post.2.1 ∧ (vp_in (v3 + 2) post.2.1 ∧ (∃ fs109, w post.2.2 = some (.inr (1, fs109)) ∧ (wKXW_hashAt (fun r108 w_108 => (vp_in (v3 + 1) post.2.1 ∧ (vp_in (v3 + 2) post.2.1 ∧ (wMhashAt (fun r113 I_113 J_113 cn_113 cm_113 so_113 => (((lg_cmp r108 r113) = 0 → ((wXLaw_18 post  n) w_108 mc ms I_113 J_113 cn_113 cm_113 so_113 (v3 + 5))) ∧ (¬ (lg_cmp r108 r113) = 0 → False))) I J cn cm so (post.1 (Int32.toNatClampNeg (v3 + 1))) (post.1 (Int32.toNatClampNeg (v3 + 2))))))) w post.2.2 (post.1 (Int32.toNatClampNeg (v3 + 1))) (post.1 (Int32.toNatClampNeg (v3 + 2)))))))) ∧ (((post.1 (Int32.toNatClampNeg v3)) &&& 31) = 11 → (vp_in (v3 + 1) post.2.1 ∧ (vp_in (v3 + 2) post.2.1 ∧ (vp_in (v3 + 3) post.2.1 ∧ (∃ fs119, w post.2.2 = some (.inr (1, fs119)) ∧ (wKXW_about (fun r118 w_118 => (vp_in (v3 + 1) post.2.1 ∧ (vp_in (v3 + 2) post.2.1 ∧ (vp_in (v3 + 3) post.2.1 ∧ (wMabout (fun r124 I_124 J_124 cn_124 cm_124 so_124 => ((r118 = r124 → ((wXLaw_18 post  n) w_118 mc ms I_124 J_124 cn_124 cm_124 so_124 (v3 + 5))) ∧ (¬ r118 = r124 → False))) I J cn cm so (post.1 (Int32.toNatClampNeg (v3 + 1))) (post.1 (Int32.toNatClampNeg (v3 + 2))) (post.1 (Int32.toNatClampNeg (v3 + 3)))))))) w post.2.2 (post.1 (Int32.toNatClampNeg (v3 + 1))) (post.1 (Int32.toNatClampNeg (v3 + 2))) (post.1 (Int32.toNatClampNeg (v3 + 3))))))))) ∧ (((post.1 (Int32.toNatClampNeg v3)) &&& 31) = 12 → (vp_in (v3 + 1) post.2.1 ∧ (vp_in (v3 + 2) post.2.1 ∧ (vp_in (v3 + 3) post.2.1 ∧ (∃ fs130, w post.2.2 = some (.inr (1, fs130)) ∧ (wKXW_linkAt (fun r129 w_129 => (vp_in (v3 + 1) post.2.1 ∧ (vp_in (v3 + 2) post.2.1 ∧ (vp_in (v3 + 3) post.2.1 ∧ (wMlinkAt (fun r135 I_135 J_135 cn_135 cm_135 so_135 => (((lg_cmp r129 r135) = 0 → ((wXLaw_18 post  n) w_129 mc ms I_135 J_135 cn_135 cm_135 so_135 (v3 + 5))) ∧ (¬ (lg_cmp r129 r135) = 0 → False))) I J cn cm so (post.1 (Int32.toNatClampNeg (v3 + 1))) (post.1 (Int32.toNatClampNeg (v3 + 2))) (post.1 (Int32.toNatClampNeg (v3 + 3)))))))) w post.2.2 (post.1 (Int32.toNatClampNeg (v3 + 1))) (post.1 (Int32.toNatClampNeg (v3 + 2))) (post.1 (Int32.toNatClampNeg (v3 + 3))))))))) ∧ (((post.1 (Int32.toNatClampNeg v3)) &&& 31) = 13 → (vp_in (v3 + 1) post.2.1 ∧ (∃ fs139, w post.2.2 = some (.inr (1, fs139)) ∧ (wKXW_heads (fun r138 w_138 => (vp_in (v3 + 1) post.2.1 ∧ (wMheads (fun r142 I_142 J_142 cn_142 cm_142 so_142 => ((r138 = r142 → ((wXLaw_18 post  n) w_138 mc ms I_142 J_142 cn_142 cm_142 so_142 (v3 + 5))) ∧ (¬ r138 = r142 → False))) I J cn cm so (post.1 (Int32.toNatClampNeg (v3 + 1)))))) w post.2.2 (post.1 (Int32.toNatClampNeg (v3 + 1))))))) ∧ (((post.1 (Int32.toNatClampNeg v3)) &&& 31) = 14 → (vp_in (v3 + 1) post.2.1 ∧ (vp_in (v3 + 2) post.2.1 ∧ (∃ fs147, w post.2.2 = some (.inr (1, fs147)) ∧ (wKXW_headAt (fun r146 w_146 => (vp_in (v3 + 1) post.2.1 ∧ (vp_in (v3 + 2) post.2.1 ∧ (wMheadAt (fun r151 I_151 J_151 cn_151 cm_151 so_151 => (((lg_cmp r146 r151) = 0 → ((wXLaw_18 post  n) w_146 mc ms I_151 J_151 cn_151 cm_151 so_151 (v3 + 5))) ∧ (¬ (lg_cmp r146 r151) = 0 → False))) I J cn cm so (post.1 (Int32.toNatClampNeg (v3 + 1))) (post.1 (Int32.toNatClampNeg (v3 + 2))))))) w post.2.2 (post.1 (Int32.toNatClampNeg (v3 + 1))) (post.1 (Int32.toNatClampNeg (v3 + 2)))))))) ∧ (((post.1 (Int32.toNatClampNeg v3)) &&& 31) = 15 → (vp_in (v3 + 1) post.2.1 ∧ (vp_in (v3 + 2) post.2.1 ∧ (∃ fs156, w post.2.2 = some (.inr (1, fs156)) ∧ (wKXW_value (fun r155 w_155 => (vp_in (v3 + 1) post.2.1 ∧ (vp_in (v3 + 2) post.2.1 ∧ (wMvalue (fun r160 I_160 J_160 cn_160 cm_160 so_160 => ((r155 = r160 → ((wXLaw_18 post  n) w_155 mc ms I_160 J_160 cn_160 cm_160 so_160 (v3 + 5))) ∧ (¬ r155 = r160 → False))) I J cn cm so (post.1 (Int32.toNatClampNeg (v3 + 1))) (post.1 (Int32.toNatClampNeg (v3 + 2))))))) w post.2.2 (post.1 (Int32.toNatClampNeg (v3 + 1))) (post.1 (Int32.toNatClampNeg (v3 + 2)))))))) ∧ (((post.1 (Int32.toNatClampNeg v3)) &&& 31) = 16 → (∃ fs163, w post.2.2 = some (.inr (1, fs163)) ∧ (wKXW_all (fun r162 w_162 => (wMall (fun r165 I_165 J_165 cn_165 cm_165 so_165 => ((r162 = r165 → ((wXLaw_18 post  n) w_162 mc ms I_165 J_165 cn_165 cm_165 so_165 (v3 + 5))) ∧ (¬ r162 = r165 → False))) I J cn cm so )) w post.2.2 ))) ∧ (¬ ((post.1 (Int32.toNatClampNeg v3)) &&& 31) = 0 ∧ ¬ ((post.1 (Int32.toNatClampNeg v3)) &&& 31) = 1 ∧ ¬ ((post.1 (Int32.toNatClampNeg v3)) &&& 31) = 2 ∧ ¬ ((post.1 (Int32.toNatClampNeg v3)) &&& 31) = 3 ∧ ¬ ((post.1 (Int32.toNatClampNeg v3)) &&& 31) = 4 ∧ ¬ ((post.1 (Int32.toNatClampNeg v3)) &&& 31) = 5 ∧ ¬ ((post.1 (Int32.toNatClampNeg v3)) &&& 31) = 6 ∧ ¬ ((post.1 (Int32.toNatClampNeg v3)) &&& 31) = 7 ∧ ¬ ((post.1 (Int32.toNatClampNeg v3)) &&& 31) = 8 ∧ ¬ ((post.1 (Int32.toNatClampNeg v3)) &&& 31) = 9 ∧ ¬ ((post.1 (Int32.toNatClampNeg v3)) &&& 31) = 10 ∧ ¬ ((post.1 (Int32.toNatClampNeg v3)) &&& 31) = 11 ∧ ¬ ((post.1 (Int32.toNatClampNeg v3)) &&& 31) = 12 ∧ ¬ ((post.1 (Int32.toNatClampNeg v3)) &&& 31) = 13 ∧ ¬ ((post.1 (Int32.toNatClampNeg v3)) &&& 31) = 14 ∧ ¬ ((post.1 (Int32.toNatClampNeg v3)) &&& 31) = 15 ∧ ¬ ((post.1 (Int32.toNatClampNeg v3)) &&& 31) = 16 → ((wXLaw_18 post  n) w mc ms I J cn cm so (v3 + 5))))))) := h
    refine lv_iload_n hx hb dXL_law_18 rfl (lv_at hl 3 rfl) ?_
    refine lv_aload_n hx hb dXL_law_19 rfl (lv_at hl 0 rfl) ?_
    refine va_slen hx hb hX hbl hbA hS dXL_law_20 ?_
    refine lv_iconst (v := 5) hx hb dXL_law_21 (by decide) ?_
    refine lv_isub hx hb dXL_law_22 ?_
    refine lv_icmp_gt (tgt := 705) hx hb dXL_law_23 (by decide) (fun c1 => ?_) (fun c1 => ?_)
    · replace h := h.1 c1
      refine lv_iconst (v := 1) hx hb dXL_law_705 (by decide) ?_
      refine va_forget hS.2.2 ?_
      refine W.widen (k := 600000) (n := 7302250) (by omega) (by omega) ?_
      exact lw_ret hx hb hr hlocks dXL_law_706
    · replace h := h.2 c1
      refine lv_aload_n hx hb dXL_law_26 rfl (lv_at hl 0 rfl) ?_
      refine lv_iload_n hx hb dXL_law_27 rfl (lv_at hl 3 rfl) ?_
      obtain ⟨h2, h⟩ := h
      refine va_sld hx hb hX hbl hbA hS h2 dXL_law_28 ?_
      refine lv_bipush (v := 31) hx hb dXL_law_29 (by decide) ?_
      refine lv_iand hx hb dXL_law_31 ?_
      by_cases k0 : ((post.1 (Int32.toNatClampNeg v3)) &&& 31) = 0
      · replace h := h.1 k0
        refine lv_tableIn (off := 84) (tgt := 116) hx hb dXL_law_32 (by rw [k0]; decide) (by rw [k0]; decide) (by rw [k0]; decide) (by decide) ?_
        refine lv_aload_n hx hb dXL_law_116 rfl (lv_at hl 1 rfl) ?_
        refine lv_aload_n hx hb dXL_law_117 rfl (lv_at hl 0 rfl) ?_
        refine lv_iload_n hx hb dXL_law_118 rfl (lv_at hl 3 rfl) ?_
        refine lv_iconst (v := 1) hx hb dXL_law_119 (by decide) ?_
        refine lv_iadd hx hb dXL_law_120 ?_
        obtain ⟨h3, h⟩ := h
        refine va_sld hx hb hX hbl hbA hS h3 dXL_law_121 ?_
        refine lv_aload_n hx hb dXL_law_122 rfl (lv_at hl 0 rfl) ?_
        refine lv_iload_n hx hb dXL_law_123 rfl (lv_at hl 3 rfl) ?_
        refine lv_iconst (v := 2) hx hb dXL_law_124 (by decide) ?_
        refine lv_iadd hx hb dXL_law_125 ?_
        obtain ⟨h4, h⟩ := h
        refine va_sld hx hb hX hbl hbA hS h4 dXL_law_126 ?_
        refine lv_aload_n hx hb dXL_law_127 rfl (lv_at hl 0 rfl) ?_
        refine lv_iload_n hx hb dXL_law_128 rfl (lv_at hl 3 rfl) ?_
        refine lv_iconst (v := 3) hx hb dXL_law_129 (by decide) ?_
        refine lv_iadd hx hb dXL_law_130 ?_
        obtain ⟨h5, h⟩ := h
        refine va_sld hx hb hX hbl hbA hS h5 dXL_law_131 ?_
        refine lv_aload_n hx hb dXL_law_132 rfl (lv_at hl 0 rfl) ?_
        refine lv_iload_n hx hb dXL_law_133 rfl (lv_at hl 3 rfl) ?_
        refine lv_iconst (v := 4) hx hb dXL_law_134 (by decide) ?_
        refine lv_iadd hx hb dXL_law_135 ?_
        obtain ⟨h6, h⟩ := h
        refine va_sld hx hb hX hbl hbA hS h6 dXL_law_136 ?_
        obtain ⟨fs8, g9, h⟩ := h
        obtain ⟨a10, b11, mc12, ms13, hm1, hm2, h⟩ := h
        refine va_calli (va_runV (As := [.int (post.1 (Int32.toNatClampNeg (v3 + 1))), .int (post.1 (Int32.toNatClampNeg (v3 + 2))), .int (post.1 (Int32.toNatClampNeg (v3 + 3))), .int (post.1 (Int32.toNatClampNeg (v3 + 4)))]) (rest := []) ⟨hx, hb, hml, hown, hts⟩ (cKXW_write (A := lA1 w H) h) (gc_XL_13 hts hN ⟨Nat.le_of_ble_eq_true rfl, Nat.le_of_ble_eq_true rfl⟩) (l_preV g9 rfl hP hS hK hN hE) rfl rfl hl.1 rfl (lv_room (Nat.le_of_ble_eq_true rfl)) dXL_law_137 ⟨show cells + a10 ≤ 600000 by omega, show slots + b11 ≤ 7302250 by omega⟩) hS (fun q _ h2 => l_A1 hP hS h2) (fun q h2 => l_A1 hP hS h2) (fun r7 w_7 t H locs ht hvm h hB hz hk hS2 => ?_)
        rw [fxC, ht] at hB
        replace hP := l_afterX hP hS hB hk
        replace hS := hS2
        refine W.cs (cells' := cells + a10) (slots' := slots + b11) rfl rfl ?_
        replace hbc : cells + a10 + mc12 = 600000 := by omega
        replace hbs : slots + b11 + ms13 = 7302250 := by omega
        refine lv_aload_n hx hb dXL_law_140 rfl (lv_at hl 2 rfl) ?_
        refine lv_aload_n hx hb dXL_law_141 rfl (lv_at hl 0 rfl) ?_
        refine lv_iload_n hx hb dXL_law_142 rfl (lv_at hl 3 rfl) ?_
        refine lv_iconst (v := 1) hx hb dXL_law_143 (by decide) ?_
        refine lv_iadd hx hb dXL_law_144 ?_
        obtain ⟨h14, h⟩ := h
        refine va_sld hx hb hX hbl hbA hS h14 dXL_law_145 ?_
        refine lv_aload_n hx hb dXL_law_146 rfl (lv_at hl 0 rfl) ?_
        refine lv_iload_n hx hb dXL_law_147 rfl (lv_at hl 3 rfl) ?_
        refine lv_iconst (v := 2) hx hb dXL_law_148 (by decide) ?_
        refine lv_iadd hx hb dXL_law_149 ?_
        obtain ⟨h15, h⟩ := h
        refine va_sld hx hb hX hbl hbA hS h15 dXL_law_150 ?_
        refine lv_aload_n hx hb dXL_law_151 rfl (lv_at hl 0 rfl) ?_
        refine lv_iload_n hx hb dXL_law_152 rfl (lv_at hl 3 rfl) ?_
        refine lv_iconst (v := 3) hx hb dXL_law_153 (by decide) ?_
        refine lv_iadd hx hb dXL_law_154 ?_
        obtain ⟨h16, h⟩ := h
        refine va_sld hx hb hX hbl hbA hS h16 dXL_law_155 ?_
        refine lv_aload_n hx hb dXL_law_156 rfl (lv_at hl 0 rfl) ?_
        refine lv_iload_n hx hb dXL_law_157 rfl (lv_at hl 3 rfl) ?_
        refine lv_iconst (v := 4) hx hb dXL_law_158 (by decide) ?_
        refine lv_iadd hx hb dXL_law_159 ?_
        obtain ⟨h17, h⟩ := h
        refine va_sld hx hb hX hbl hbA hS h17 dXL_law_160 ?_
        refine va_calli (va_runV (As := [.int (post.1 (Int32.toNatClampNeg (v3 + 1))), .int (post.1 (Int32.toNatClampNeg (v3 + 2))), .int (post.1 (Int32.toNatClampNeg (v3 + 3))), .int (post.1 (Int32.toNatClampNeg (v3 + 4)))]) (rest := [.int r7]) ⟨hx, hb, hml, hown, hts⟩ (cMwrite (l_mDs hP) h) (gc_XL_17 hts hN ⟨Nat.le_of_ble_eq_true rfl, Nat.le_of_ble_eq_true rfl⟩) (l_preM hP hK hN) rfl rfl hl.1 rfl (lv_room (Nat.le_of_ble_eq_true rfl)) dXL_law_161 ⟨show cells + a10 + 0 ≤ 600000 by omega, show slots + b11 + 0 ≤ 7302250 by omega⟩) hS (fun q _ h2 => l_A2 hP h2) (fun q h2 => l_A2 hP h2) (fun r18 u t H locs ht hvm h hB hz hk hS2 => ?_)
        rw [fxC, ht] at hB
        obtain ⟨I_18, J_18, cn_18, cm_18, so_18⟩ := u
        dsimp only at h
        replace hP := l_afterM hP hB hk
        replace hS := hS2
        refine W.cs (cells' := cells + a10) (slots' := slots + b11) rfl rfl ?_
        refine lv_icmp_eq (tgt := 699) hx hb dXL_law_164 (by decide) (fun c19 => ?_) (fun c19 => ?_)
        · replace h := h.1 c19
          refine lv_iinc (v := v3 + 5) (lv' := [(3, .int (v3 + 5)), (0, .ref b), (1, .ref post.2.2), (2, .ref h0)]) hx hb dXL_law_699 hl (k := 3) rfl rfl (by decide) rfl (fun ls hl => ?_)
          refine lv_goto (tgt := 18) hx hb dXL_law_702 (by decide) ?_
          exact hK18 w_7 mc12 ms13 I_18 J_18 cn_18 cm_18 so_18 (v3 + 5) h H locs ls hP hS (lv_sub hl [1, 2, 3, 0] rfl) _ _ hbc hbs
        · replace h := h.2 c19
          refine lv_iconst (v := 0) hx hb dXL_law_167 (by decide) ?_
          exact h.elim
      · skip
        by_cases k1 : ((post.1 (Int32.toNatClampNeg v3)) &&& 31) = 1
        · replace h := h.2.1 k1
          refine lv_tableIn (off := 137) (tgt := 169) hx hb dXL_law_32 (by rw [k1]; decide) (by rw [k1]; decide) (by rw [k1]; decide) (by decide) ?_
          refine lv_aload_n hx hb dXL_law_169 rfl (lv_at hl 1 rfl) ?_
          refine lv_aload_n hx hb dXL_law_170 rfl (lv_at hl 0 rfl) ?_
          refine lv_iload_n hx hb dXL_law_171 rfl (lv_at hl 3 rfl) ?_
          refine lv_iconst (v := 1) hx hb dXL_law_172 (by decide) ?_
          refine lv_iadd hx hb dXL_law_173 ?_
          obtain ⟨h20, h⟩ := h
          refine va_sld hx hb hX hbl hbA hS h20 dXL_law_174 ?_
          refine lv_aload_n hx hb dXL_law_175 rfl (lv_at hl 0 rfl) ?_
          refine lv_iload_n hx hb dXL_law_176 rfl (lv_at hl 3 rfl) ?_
          refine lv_iconst (v := 2) hx hb dXL_law_177 (by decide) ?_
          refine lv_iadd hx hb dXL_law_178 ?_
          obtain ⟨h21, h⟩ := h
          refine va_sld hx hb hX hbl hbA hS h21 dXL_law_179 ?_
          refine lv_aload_n hx hb dXL_law_180 rfl (lv_at hl 0 rfl) ?_
          refine lv_iload_n hx hb dXL_law_181 rfl (lv_at hl 3 rfl) ?_
          refine lv_iconst (v := 3) hx hb dXL_law_182 (by decide) ?_
          refine lv_iadd hx hb dXL_law_183 ?_
          obtain ⟨h22, h⟩ := h
          refine va_sld hx hb hX hbl hbA hS h22 dXL_law_184 ?_
          refine lv_aload_n hx hb dXL_law_185 rfl (lv_at hl 0 rfl) ?_
          refine lv_iload_n hx hb dXL_law_186 rfl (lv_at hl 3 rfl) ?_
          refine lv_iconst (v := 4) hx hb dXL_law_187 (by decide) ?_
          refine lv_iadd hx hb dXL_law_188 ?_
          obtain ⟨h23, h⟩ := h
          refine va_sld hx hb hX hbl hbA hS h23 dXL_law_189 ?_
          obtain ⟨fs25, g26, h⟩ := h
          refine va_callv (va_runV (As := [.int (post.1 (Int32.toNatClampNeg (v3 + 1))), .int (post.1 (Int32.toNatClampNeg (v3 + 2))), .int (post.1 (Int32.toNatClampNeg (v3 + 3))), .int (post.1 (Int32.toNatClampNeg (v3 + 4)))]) (rest := []) ⟨hx, hb, hml, hown, hts⟩ (cKXW_draft (A := lA1 w H) h) (gc_XL_18 hts hN ⟨Nat.le_of_ble_eq_true rfl, Nat.le_of_ble_eq_true rfl⟩) (l_preV g26 rfl hP hS hK hN hE) rfl rfl hl.1 rfl (lv_room (Nat.le_of_ble_eq_true rfl)) dXL_law_190 ⟨show cells + 0 ≤ 600000 by omega, show slots + 0 ≤ 7302250 by omega⟩) hS (fun q _ h2 => l_A1 hP hS h2) (fun q h2 => l_A1 hP hS h2) (fun w_24 t H locs ht hvm h hB hz hk hS2 => ?_)
          rw [fxC, ht] at hB
          replace hP := l_afterX hP hS hB hk
          replace hS := hS2
          refine W.cs (cells' := cells) (slots' := slots) rfl rfl ?_
          refine lv_aload_n hx hb dXL_law_193 rfl (lv_at hl 2 rfl) ?_
          refine lv_aload_n hx hb dXL_law_194 rfl (lv_at hl 0 rfl) ?_
          refine lv_iload_n hx hb dXL_law_195 rfl (lv_at hl 3 rfl) ?_
          refine lv_iconst (v := 1) hx hb dXL_law_196 (by decide) ?_
          refine lv_iadd hx hb dXL_law_197 ?_
          obtain ⟨h27, h⟩ := h
          refine va_sld hx hb hX hbl hbA hS h27 dXL_law_198 ?_
          refine lv_aload_n hx hb dXL_law_199 rfl (lv_at hl 0 rfl) ?_
          refine lv_iload_n hx hb dXL_law_200 rfl (lv_at hl 3 rfl) ?_
          refine lv_iconst (v := 2) hx hb dXL_law_201 (by decide) ?_
          refine lv_iadd hx hb dXL_law_202 ?_
          obtain ⟨h28, h⟩ := h
          refine va_sld hx hb hX hbl hbA hS h28 dXL_law_203 ?_
          refine lv_aload_n hx hb dXL_law_204 rfl (lv_at hl 0 rfl) ?_
          refine lv_iload_n hx hb dXL_law_205 rfl (lv_at hl 3 rfl) ?_
          refine lv_iconst (v := 3) hx hb dXL_law_206 (by decide) ?_
          refine lv_iadd hx hb dXL_law_207 ?_
          obtain ⟨h29, h⟩ := h
          refine va_sld hx hb hX hbl hbA hS h29 dXL_law_208 ?_
          refine lv_aload_n hx hb dXL_law_209 rfl (lv_at hl 0 rfl) ?_
          refine lv_iload_n hx hb dXL_law_210 rfl (lv_at hl 3 rfl) ?_
          refine lv_iconst (v := 4) hx hb dXL_law_211 (by decide) ?_
          refine lv_iadd hx hb dXL_law_212 ?_
          obtain ⟨h30, h⟩ := h
          refine va_sld hx hb hX hbl hbA hS h30 dXL_law_213 ?_
          refine va_callv (va_runV (As := [.int (post.1 (Int32.toNatClampNeg (v3 + 1))), .int (post.1 (Int32.toNatClampNeg (v3 + 2))), .int (post.1 (Int32.toNatClampNeg (v3 + 3))), .int (post.1 (Int32.toNatClampNeg (v3 + 4)))]) (rest := []) ⟨hx, hb, hml, hown, hts⟩ (cMdraft (l_mDs hP) h) (gc_XL_22 hts hN ⟨Nat.le_of_ble_eq_true rfl, Nat.le_of_ble_eq_true rfl⟩) (l_preM hP hK hN) rfl rfl hl.1 rfl (lv_room (Nat.le_of_ble_eq_true rfl)) dXL_law_214 ⟨show cells + 0 ≤ 600000 by omega, show slots + 0 ≤ 7302250 by omega⟩) hS (fun q _ h2 => l_A2 hP h2) (fun q h2 => l_A2 hP h2) (fun u t H locs ht hvm h hB hz hk hS2 => ?_)
          rw [fxC, ht] at hB
          obtain ⟨I_31, J_31, cn_31, cm_31, so_31⟩ := u
          dsimp only at h
          replace hP := l_afterM hP hB hk
          replace hS := hS2
          refine W.cs (cells' := cells) (slots' := slots) rfl rfl ?_
          refine lv_goto (tgt := 699) hx hb dXL_law_217 (by decide) ?_
          refine lv_iinc (v := v3 + 5) (lv' := [(3, .int (v3 + 5)), (0, .ref b), (1, .ref post.2.2), (2, .ref h0)]) hx hb dXL_law_699 hl (k := 3) rfl rfl (by decide) rfl (fun ls hl => ?_)
          refine lv_goto (tgt := 18) hx hb dXL_law_702 (by decide) ?_
          exact hK18 w_24 mc ms I_31 J_31 cn_31 cm_31 so_31 (v3 + 5) h H locs ls hP hS (lv_sub hl [1, 2, 3, 0] rfl) _ _ hbc hbs
        · skip
          by_cases k2 : ((post.1 (Int32.toNatClampNeg v3)) &&& 31) = 2
          · replace h := h.2.2.1 k2
            refine lv_tableIn (off := 188) (tgt := 220) hx hb dXL_law_32 (by rw [k2]; decide) (by rw [k2]; decide) (by rw [k2]; decide) (by decide) ?_
            refine lv_aload_n hx hb dXL_law_220 rfl (lv_at hl 1 rfl) ?_
            refine lv_aload_n hx hb dXL_law_221 rfl (lv_at hl 0 rfl) ?_
            refine lv_iload_n hx hb dXL_law_222 rfl (lv_at hl 3 rfl) ?_
            refine lv_iconst (v := 1) hx hb dXL_law_223 (by decide) ?_
            refine lv_iadd hx hb dXL_law_224 ?_
            obtain ⟨h32, h⟩ := h
            refine va_sld hx hb hX hbl hbA hS h32 dXL_law_225 ?_
            refine lv_i2l (v := Int32.toInt64 (post.1 (Int32.toNatClampNeg (v3 + 1)))) hx hb dXL_law_226 rfl ?_
            refine lv_bipush (v := 32) hx hb dXL_law_227 (by decide) ?_
            refine lv_lshl (v := hj_shl (Int32.toInt64 (post.1 (Int32.toNatClampNeg (v3 + 1)))) 32) hx hb dXL_law_229 rfl ?_
            refine lv_aload_n hx hb dXL_law_230 rfl (lv_at hl 0 rfl) ?_
            refine lv_iload_n hx hb dXL_law_231 rfl (lv_at hl 3 rfl) ?_
            refine lv_iconst (v := 2) hx hb dXL_law_232 (by decide) ?_
            refine lv_iadd hx hb dXL_law_233 ?_
            obtain ⟨h33, h⟩ := h
            refine va_sld hx hb hX hbl hbA hS h33 dXL_law_234 ?_
            refine lv_i2l (v := Int32.toInt64 (post.1 (Int32.toNatClampNeg (v3 + 2)))) hx hb dXL_law_235 rfl ?_
            refine lv_ldc2 (v := 4294967295) hx hb hown (hts (.constantLong RXL 23 4294967295) (fx_m (by decide +kernel))) dXL_law_236 ?_
            refine lv_land hx hb dXL_law_239 ?_
            refine lv_lor hx hb dXL_law_240 ?_
            obtain ⟨fs35, g36, h⟩ := h
            refine va_calli (va_runV (As := [.long ((hj_shl (Int32.toInt64 (post.1 (Int32.toNatClampNeg (v3 + 1)))) 32) ||| ((Int32.toInt64 (post.1 (Int32.toNatClampNeg (v3 + 2)))) &&& 4294967295))]) (rest := []) ⟨hx, hb, hml, hown, hts⟩ (cKXW_link (A := lA1 w H) h) (gc_XL_25 hts hN ⟨Nat.le_of_ble_eq_true rfl, Nat.le_of_ble_eq_true rfl⟩) (l_preV g36 rfl hP hS hK hN hE) rfl rfl hl.1 rfl (lv_room (Nat.le_of_ble_eq_true rfl)) dXL_law_241 ⟨show cells + 0 ≤ 600000 by omega, show slots + 0 ≤ 7302250 by omega⟩) hS (fun q _ h2 => l_A1 hP hS h2) (fun q h2 => l_A1 hP hS h2) (fun r34 w_34 t H locs ht hvm h hB hz hk hS2 => ?_)
            rw [fxC, ht] at hB
            replace hP := l_afterX hP hS hB hk
            replace hS := hS2
            refine W.cs (cells' := cells) (slots' := slots) rfl rfl ?_
            refine lv_aload_n hx hb dXL_law_244 rfl (lv_at hl 2 rfl) ?_
            refine lv_aload_n hx hb dXL_law_245 rfl (lv_at hl 0 rfl) ?_
            refine lv_iload_n hx hb dXL_law_246 rfl (lv_at hl 3 rfl) ?_
            refine lv_iconst (v := 1) hx hb dXL_law_247 (by decide) ?_
            refine lv_iadd hx hb dXL_law_248 ?_
            obtain ⟨h37, h⟩ := h
            refine va_sld hx hb hX hbl hbA hS h37 dXL_law_249 ?_
            refine lv_i2l (v := Int32.toInt64 (post.1 (Int32.toNatClampNeg (v3 + 1)))) hx hb dXL_law_250 rfl ?_
            refine lv_bipush (v := 32) hx hb dXL_law_251 (by decide) ?_
            refine lv_lshl (v := hj_shl (Int32.toInt64 (post.1 (Int32.toNatClampNeg (v3 + 1)))) 32) hx hb dXL_law_253 rfl ?_
            refine lv_aload_n hx hb dXL_law_254 rfl (lv_at hl 0 rfl) ?_
            refine lv_iload_n hx hb dXL_law_255 rfl (lv_at hl 3 rfl) ?_
            refine lv_iconst (v := 2) hx hb dXL_law_256 (by decide) ?_
            refine lv_iadd hx hb dXL_law_257 ?_
            obtain ⟨h38, h⟩ := h
            refine va_sld hx hb hX hbl hbA hS h38 dXL_law_258 ?_
            refine lv_i2l (v := Int32.toInt64 (post.1 (Int32.toNatClampNeg (v3 + 2)))) hx hb dXL_law_259 rfl ?_
            refine lv_ldc2 (v := 4294967295) hx hb hown (hts (.constantLong RXL 23 4294967295) (fx_m (by decide +kernel))) dXL_law_260 ?_
            refine lv_land hx hb dXL_law_263 ?_
            refine lv_lor hx hb dXL_law_264 ?_
            refine va_calli (va_runV (As := [.long ((hj_shl (Int32.toInt64 (post.1 (Int32.toNatClampNeg (v3 + 1)))) 32) ||| ((Int32.toInt64 (post.1 (Int32.toNatClampNeg (v3 + 2)))) &&& 4294967295))]) (rest := [.int r34]) ⟨hx, hb, hml, hown, hts⟩ (cMlink (l_mDs hP) h) (gc_XL_29 hts hN ⟨Nat.le_of_ble_eq_true rfl, Nat.le_of_ble_eq_true rfl⟩) (l_preM hP hK hN) rfl rfl hl.1 rfl (lv_room (Nat.le_of_ble_eq_true rfl)) dXL_law_265 ⟨show cells + 0 ≤ 600000 by omega, show slots + 0 ≤ 7302250 by omega⟩) hS (fun q _ h2 => l_A2 hP h2) (fun q h2 => l_A2 hP h2) (fun r39 u t H locs ht hvm h hB hz hk hS2 => ?_)
            rw [fxC, ht] at hB
            obtain ⟨I_39, J_39, cn_39, cm_39, so_39⟩ := u
            dsimp only at h
            replace hP := l_afterM hP hB hk
            replace hS := hS2
            refine W.cs (cells' := cells) (slots' := slots) rfl rfl ?_
            refine lv_icmp_eq (tgt := 699) hx hb dXL_law_268 (by decide) (fun c40 => ?_) (fun c40 => ?_)
            · replace h := h.1 c40
              refine lv_iinc (v := v3 + 5) (lv' := [(3, .int (v3 + 5)), (0, .ref b), (1, .ref post.2.2), (2, .ref h0)]) hx hb dXL_law_699 hl (k := 3) rfl rfl (by decide) rfl (fun ls hl => ?_)
              refine lv_goto (tgt := 18) hx hb dXL_law_702 (by decide) ?_
              exact hK18 w_34 mc ms I_39 J_39 cn_39 cm_39 so_39 (v3 + 5) h H locs ls hP hS (lv_sub hl [1, 2, 3, 0] rfl) _ _ hbc hbs
            · replace h := h.2 c40
              refine lv_iconst (v := 0) hx hb dXL_law_271 (by decide) ?_
              exact h.elim
          · skip
            by_cases k3 : ((post.1 (Int32.toNatClampNeg v3)) &&& 31) = 3
            · replace h := h.2.2.2.1 k3
              refine lv_tableIn (off := 241) (tgt := 273) hx hb dXL_law_32 (by rw [k3]; decide) (by rw [k3]; decide) (by rw [k3]; decide) (by decide) ?_
              refine lv_aload_n hx hb dXL_law_273 rfl (lv_at hl 1 rfl) ?_
              obtain ⟨fs42, g43, h⟩ := h
              obtain ⟨a44, b45, mc46, ms47, hm1, hm2, h⟩ := h
              refine va_calll (va_runV (As := []) (rest := []) ⟨hx, hb, hml, hown, hts⟩ (cKXW_draftHash (A := lA1 w H) h) (gc_XL_30 hts hN ⟨Nat.le_of_ble_eq_true rfl, Nat.le_of_ble_eq_true rfl⟩) (l_preV g43 rfl hP hS hK hN hE) rfl rfl hl.1 rfl (lv_room (Nat.le_of_ble_eq_true rfl)) dXL_law_274 ⟨show cells + a44 ≤ 600000 by omega, show slots + b45 ≤ 7302250 by omega⟩) hS (fun q _ h2 => l_A1 hP hS h2) (fun q h2 => l_A1 hP hS h2) (fun r41 w_41 t H locs ht hvm h hB hz hk hS2 => ?_)
              rw [fxC, ht] at hB
              replace hP := l_afterX hP hS hB hk
              replace hS := hS2
              refine W.cs (cells' := cells + a44) (slots' := slots + b45) rfl rfl ?_
              replace hbc : cells + a44 + mc46 = 600000 := by omega
              replace hbs : slots + b45 + ms47 = 7302250 := by omega
              refine lv_aload_n hx hb dXL_law_277 rfl (lv_at hl 2 rfl) ?_
              refine va_calll (va_runV (As := []) (rest := [.long r41]) ⟨hx, hb, hml, hown, hts⟩ (cMdraftHash (l_mDs hP) h) (gc_XL_34 hts hN ⟨Nat.le_of_ble_eq_true rfl, Nat.le_of_ble_eq_true rfl⟩) (l_preM hP hK hN) rfl rfl hl.1 rfl (lv_room (Nat.le_of_ble_eq_true rfl)) dXL_law_278 ⟨show cells + a44 + 0 ≤ 600000 by omega, show slots + b45 + 0 ≤ 7302250 by omega⟩) hS (fun q _ h2 => l_A2 hP h2) (fun q h2 => l_A2 hP h2) (fun r48 u t H locs ht hvm h hB hz hk hS2 => ?_)
              rw [fxC, ht] at hB
              obtain ⟨I_48, J_48, cn_48, cm_48, so_48⟩ := u
              dsimp only at h
              replace hP := l_afterM hP hB hk
              replace hS := hS2
              refine W.cs (cells' := cells + a44) (slots' := slots + b45) rfl rfl ?_
              refine W.lcmp hx hb dXL_law_281 ?_
              refine lv_if_eq (tgt := 699) hx hb dXL_law_282 (by decide) (fun c49 => ?_) (fun c49 => ?_)
              · replace h := h.1 c49
                refine lv_iinc (v := v3 + 5) (lv' := [(3, .int (v3 + 5)), (0, .ref b), (1, .ref post.2.2), (2, .ref h0)]) hx hb dXL_law_699 hl (k := 3) rfl rfl (by decide) rfl (fun ls hl => ?_)
                refine lv_goto (tgt := 18) hx hb dXL_law_702 (by decide) ?_
                exact hK18 w_41 mc46 ms47 I_48 J_48 cn_48 cm_48 so_48 (v3 + 5) h H locs ls hP hS (lv_sub hl [1, 2, 3, 0] rfl) _ _ hbc hbs
              · replace h := h.2 c49
                refine lv_iconst (v := 0) hx hb dXL_law_285 (by decide) ?_
                exact h.elim
            · skip
              by_cases k4 : ((post.1 (Int32.toNatClampNeg v3)) &&& 31) = 4
              · replace h := h.2.2.2.2.1 k4
                refine lv_tableIn (off := 255) (tgt := 287) hx hb dXL_law_32 (by rw [k4]; decide) (by rw [k4]; decide) (by rw [k4]; decide) (by decide) ?_
                refine lv_aload_n hx hb dXL_law_287 rfl (lv_at hl 1 rfl) ?_
                refine lv_aload_n hx hb dXL_law_288 rfl (lv_at hl 0 rfl) ?_
                refine lv_iload_n hx hb dXL_law_289 rfl (lv_at hl 3 rfl) ?_
                refine lv_iconst (v := 1) hx hb dXL_law_290 (by decide) ?_
                refine lv_iadd hx hb dXL_law_291 ?_
                obtain ⟨h50, h⟩ := h
                refine va_sld hx hb hX hbl hbA hS h50 dXL_law_292 ?_
                obtain ⟨fs52, g53, h⟩ := h
                obtain ⟨a54, b55, mc56, ms57, hm1, hm2, h⟩ := h
                refine va_calli (va_runV (As := [.int (post.1 (Int32.toNatClampNeg (v3 + 1)))]) (rest := []) ⟨hx, hb, hml, hown, hts⟩ (cKXW_offer (A := lA1 w H) h) (gc_XL_35 hts hN ⟨Nat.le_of_ble_eq_true rfl, Nat.le_of_ble_eq_true rfl⟩) (l_preV g53 rfl hP hS hK hN hE) rfl rfl hl.1 rfl (lv_room (Nat.le_of_ble_eq_true rfl)) dXL_law_293 ⟨show cells + a54 ≤ 600000 by omega, show slots + b55 ≤ 7302250 by omega⟩) hS (fun q _ h2 => l_A1 hP hS h2) (fun q h2 => l_A1 hP hS h2) (fun r51 w_51 t H locs ht hvm h hB hz hk hS2 => ?_)
                rw [fxC, ht] at hB
                replace hP := l_afterX hP hS hB hk
                replace hS := hS2
                refine W.cs (cells' := cells + a54) (slots' := slots + b55) rfl rfl ?_
                replace hbc : cells + a54 + mc56 = 600000 := by omega
                replace hbs : slots + b55 + ms57 = 7302250 := by omega
                refine lv_aload_n hx hb dXL_law_296 rfl (lv_at hl 2 rfl) ?_
                refine lv_aload_n hx hb dXL_law_297 rfl (lv_at hl 0 rfl) ?_
                refine lv_iload_n hx hb dXL_law_298 rfl (lv_at hl 3 rfl) ?_
                refine lv_iconst (v := 1) hx hb dXL_law_299 (by decide) ?_
                refine lv_iadd hx hb dXL_law_300 ?_
                obtain ⟨h58, h⟩ := h
                refine va_sld hx hb hX hbl hbA hS h58 dXL_law_301 ?_
                refine va_calli (va_runV (As := [.int (post.1 (Int32.toNatClampNeg (v3 + 1)))]) (rest := [.int r51]) ⟨hx, hb, hml, hown, hts⟩ (cMoffer (l_mDs hP) h) (gc_XL_39 hts hN ⟨Nat.le_of_ble_eq_true rfl, Nat.le_of_ble_eq_true rfl⟩) (l_preM hP hK hN) rfl rfl hl.1 rfl (lv_room (Nat.le_of_ble_eq_true rfl)) dXL_law_302 ⟨show cells + a54 + 0 ≤ 600000 by omega, show slots + b55 + 0 ≤ 7302250 by omega⟩) hS (fun q _ h2 => l_A2 hP h2) (fun q h2 => l_A2 hP h2) (fun r59 u t H locs ht hvm h hB hz hk hS2 => ?_)
                rw [fxC, ht] at hB
                obtain ⟨I_59, J_59, cn_59, cm_59, so_59⟩ := u
                dsimp only at h
                replace hP := l_afterM hP hB hk
                replace hS := hS2
                refine W.cs (cells' := cells + a54) (slots' := slots + b55) rfl rfl ?_
                refine lv_icmp_eq (tgt := 699) hx hb dXL_law_305 (by decide) (fun c60 => ?_) (fun c60 => ?_)
                · replace h := h.1 c60
                  refine lv_iinc (v := v3 + 5) (lv' := [(3, .int (v3 + 5)), (0, .ref b), (1, .ref post.2.2), (2, .ref h0)]) hx hb dXL_law_699 hl (k := 3) rfl rfl (by decide) rfl (fun ls hl => ?_)
                  refine lv_goto (tgt := 18) hx hb dXL_law_702 (by decide) ?_
                  exact hK18 w_51 mc56 ms57 I_59 J_59 cn_59 cm_59 so_59 (v3 + 5) h H locs ls hP hS (lv_sub hl [1, 2, 3, 0] rfl) _ _ hbc hbs
                · replace h := h.2 c60
                  refine lv_iconst (v := 0) hx hb dXL_law_308 (by decide) ?_
                  exact h.elim
              · skip
                by_cases k5 : ((post.1 (Int32.toNatClampNeg v3)) &&& 31) = 5
                · replace h := h.2.2.2.2.2.1 k5
                  refine lv_tableIn (off := 278) (tgt := 310) hx hb dXL_law_32 (by rw [k5]; decide) (by rw [k5]; decide) (by rw [k5]; decide) (by decide) ?_
                  refine lv_aload_n hx hb dXL_law_310 rfl (lv_at hl 1 rfl) ?_
                  refine lv_aload_n hx hb dXL_law_311 rfl (lv_at hl 0 rfl) ?_
                  refine lv_iload_n hx hb dXL_law_312 rfl (lv_at hl 3 rfl) ?_
                  refine lv_iconst (v := 1) hx hb dXL_law_313 (by decide) ?_
                  refine lv_iadd hx hb dXL_law_314 ?_
                  obtain ⟨h61, h⟩ := h
                  refine va_sld hx hb hX hbl hbA hS h61 dXL_law_315 ?_
                  refine lv_aload_n hx hb dXL_law_316 rfl (lv_at hl 0 rfl) ?_
                  refine lv_iload_n hx hb dXL_law_317 rfl (lv_at hl 3 rfl) ?_
                  refine lv_iconst (v := 2) hx hb dXL_law_318 (by decide) ?_
                  refine lv_iadd hx hb dXL_law_319 ?_
                  obtain ⟨h62, h⟩ := h
                  refine va_sld hx hb hX hbl hbA hS h62 dXL_law_320 ?_
                  obtain ⟨fs64, g65, h⟩ := h
                  obtain ⟨a66, b67, mc68, ms69, hm1, hm2, h⟩ := h
                  refine va_calli (va_runV (As := [.int (post.1 (Int32.toNatClampNeg (v3 + 1))), .int (post.1 (Int32.toNatClampNeg (v3 + 2)))]) (rest := []) ⟨hx, hb, hml, hown, hts⟩ (cKXW_meet (A := lA1 w H) h) (gc_XL_40 hts hN ⟨Nat.le_of_ble_eq_true rfl, Nat.le_of_ble_eq_true rfl⟩) (l_preV g65 rfl hP hS hK hN hE) rfl rfl hl.1 rfl (lv_room (Nat.le_of_ble_eq_true rfl)) dXL_law_321 ⟨show cells + a66 ≤ 600000 by omega, show slots + b67 ≤ 7302250 by omega⟩) hS (fun q _ h2 => l_A1 hP hS h2) (fun q h2 => l_A1 hP hS h2) (fun r63 w_63 t H locs ht hvm h hB hz hk hS2 => ?_)
                  rw [fxC, ht] at hB
                  replace hP := l_afterX hP hS hB hk
                  replace hS := hS2
                  refine W.cs (cells' := cells + a66) (slots' := slots + b67) rfl rfl ?_
                  replace hbc : cells + a66 + mc68 = 600000 := by omega
                  replace hbs : slots + b67 + ms69 = 7302250 := by omega
                  refine lv_aload_n hx hb dXL_law_324 rfl (lv_at hl 2 rfl) ?_
                  refine lv_aload_n hx hb dXL_law_325 rfl (lv_at hl 0 rfl) ?_
                  refine lv_iload_n hx hb dXL_law_326 rfl (lv_at hl 3 rfl) ?_
                  refine lv_iconst (v := 1) hx hb dXL_law_327 (by decide) ?_
                  refine lv_iadd hx hb dXL_law_328 ?_
                  obtain ⟨h70, h⟩ := h
                  refine va_sld hx hb hX hbl hbA hS h70 dXL_law_329 ?_
                  refine lv_aload_n hx hb dXL_law_330 rfl (lv_at hl 0 rfl) ?_
                  refine lv_iload_n hx hb dXL_law_331 rfl (lv_at hl 3 rfl) ?_
                  refine lv_iconst (v := 2) hx hb dXL_law_332 (by decide) ?_
                  refine lv_iadd hx hb dXL_law_333 ?_
                  obtain ⟨h71, h⟩ := h
                  refine va_sld hx hb hX hbl hbA hS h71 dXL_law_334 ?_
                  refine va_calli (va_runV (As := [.int (post.1 (Int32.toNatClampNeg (v3 + 1))), .int (post.1 (Int32.toNatClampNeg (v3 + 2)))]) (rest := [.int r63]) ⟨hx, hb, hml, hown, hts⟩ (cMmeet (l_mDs hP) h) (gc_XL_44 hts hN ⟨Nat.le_of_ble_eq_true rfl, Nat.le_of_ble_eq_true rfl⟩) (l_preM hP hK hN) rfl rfl hl.1 rfl (lv_room (Nat.le_of_ble_eq_true rfl)) dXL_law_335 ⟨show cells + a66 + 0 ≤ 600000 by omega, show slots + b67 + 0 ≤ 7302250 by omega⟩) hS (fun q _ h2 => l_A2 hP h2) (fun q h2 => l_A2 hP h2) (fun r72 u t H locs ht hvm h hB hz hk hS2 => ?_)
                  rw [fxC, ht] at hB
                  obtain ⟨I_72, J_72, cn_72, cm_72, so_72⟩ := u
                  dsimp only at h
                  replace hP := l_afterM hP hB hk
                  replace hS := hS2
                  refine W.cs (cells' := cells + a66) (slots' := slots + b67) rfl rfl ?_
                  refine lv_icmp_eq (tgt := 699) hx hb dXL_law_338 (by decide) (fun c73 => ?_) (fun c73 => ?_)
                  · replace h := h.1 c73
                    refine lv_iinc (v := v3 + 5) (lv' := [(3, .int (v3 + 5)), (0, .ref b), (1, .ref post.2.2), (2, .ref h0)]) hx hb dXL_law_699 hl (k := 3) rfl rfl (by decide) rfl (fun ls hl => ?_)
                    refine lv_goto (tgt := 18) hx hb dXL_law_702 (by decide) ?_
                    exact hK18 w_63 mc68 ms69 I_72 J_72 cn_72 cm_72 so_72 (v3 + 5) h H locs ls hP hS (lv_sub hl [1, 2, 3, 0] rfl) _ _ hbc hbs
                  · replace h := h.2 c73
                    refine lv_iconst (v := 0) hx hb dXL_law_341 (by decide) ?_
                    exact h.elim
                · skip
                  by_cases k6 : ((post.1 (Int32.toNatClampNeg v3)) &&& 31) = 6
                  · replace h := h.2.2.2.2.2.2.1 k6
                    refine lv_tableIn (off := 311) (tgt := 343) hx hb dXL_law_32 (by rw [k6]; decide) (by rw [k6]; decide) (by rw [k6]; decide) (by decide) ?_
                    refine lv_aload_n hx hb dXL_law_343 rfl (lv_at hl 1 rfl) ?_
                    refine lv_aload_n hx hb dXL_law_344 rfl (lv_at hl 0 rfl) ?_
                    refine lv_iload_n hx hb dXL_law_345 rfl (lv_at hl 3 rfl) ?_
                    refine lv_iconst (v := 1) hx hb dXL_law_346 (by decide) ?_
                    refine lv_iadd hx hb dXL_law_347 ?_
                    obtain ⟨h74, h⟩ := h
                    refine va_sld hx hb hX hbl hbA hS h74 dXL_law_348 ?_
                    obtain ⟨fs76, g77, h⟩ := h
                    refine va_calli (va_runV (As := [.int (post.1 (Int32.toNatClampNeg (v3 + 1)))]) (rest := []) ⟨hx, hb, hml, hown, hts⟩ (cKXW_drop (A := lA1 w H) h) (gc_XL_45 hts hN ⟨Nat.le_of_ble_eq_true rfl, Nat.le_of_ble_eq_true rfl⟩) (l_preV g77 rfl hP hS hK hN hE) rfl rfl hl.1 rfl (lv_room (Nat.le_of_ble_eq_true rfl)) dXL_law_349 ⟨show cells + 0 ≤ 600000 by omega, show slots + 0 ≤ 7302250 by omega⟩) hS (fun q _ h2 => l_A1 hP hS h2) (fun q h2 => l_A1 hP hS h2) (fun r75 w_75 t H locs ht hvm h hB hz hk hS2 => ?_)
                    rw [fxC, ht] at hB
                    replace hP := l_afterX hP hS hB hk
                    replace hS := hS2
                    refine W.cs (cells' := cells) (slots' := slots) rfl rfl ?_
                    refine lv_aload_n hx hb dXL_law_352 rfl (lv_at hl 2 rfl) ?_
                    refine lv_aload_n hx hb dXL_law_353 rfl (lv_at hl 0 rfl) ?_
                    refine lv_iload_n hx hb dXL_law_354 rfl (lv_at hl 3 rfl) ?_
                    refine lv_iconst (v := 1) hx hb dXL_law_355 (by decide) ?_
                    refine lv_iadd hx hb dXL_law_356 ?_
                    obtain ⟨h78, h⟩ := h
                    refine va_sld hx hb hX hbl hbA hS h78 dXL_law_357 ?_
                    refine va_calli (va_runV (As := [.int (post.1 (Int32.toNatClampNeg (v3 + 1)))]) (rest := [.int r75]) ⟨hx, hb, hml, hown, hts⟩ (cMdrop (l_mDs hP) h) (gc_XL_48 hts hN ⟨Nat.le_of_ble_eq_true rfl, Nat.le_of_ble_eq_true rfl⟩) (l_preM hP hK hN) rfl rfl hl.1 rfl (lv_room (Nat.le_of_ble_eq_true rfl)) dXL_law_358 ⟨show cells + 0 ≤ 600000 by omega, show slots + 0 ≤ 7302250 by omega⟩) hS (fun q _ h2 => l_A2 hP h2) (fun q h2 => l_A2 hP h2) (fun r79 u t H locs ht hvm h hB hz hk hS2 => ?_)
                    rw [fxC, ht] at hB
                    obtain ⟨I_79, J_79, cn_79, cm_79, so_79⟩ := u
                    dsimp only at h
                    replace hP := l_afterM hP hB hk
                    replace hS := hS2
                    refine W.cs (cells' := cells) (slots' := slots) rfl rfl ?_
                    refine lv_icmp_eq (tgt := 699) hx hb dXL_law_361 (by decide) (fun c80 => ?_) (fun c80 => ?_)
                    · replace h := h.1 c80
                      refine lv_iinc (v := v3 + 5) (lv' := [(3, .int (v3 + 5)), (0, .ref b), (1, .ref post.2.2), (2, .ref h0)]) hx hb dXL_law_699 hl (k := 3) rfl rfl (by decide) rfl (fun ls hl => ?_)
                      refine lv_goto (tgt := 18) hx hb dXL_law_702 (by decide) ?_
                      exact hK18 w_75 mc ms I_79 J_79 cn_79 cm_79 so_79 (v3 + 5) h H locs ls hP hS (lv_sub hl [1, 2, 3, 0] rfl) _ _ hbc hbs
                    · replace h := h.2 c80
                      refine lv_iconst (v := 0) hx hb dXL_law_364 (by decide) ?_
                      exact h.elim
                  · skip
                    by_cases k7 : ((post.1 (Int32.toNatClampNeg v3)) &&& 31) = 7
                    · replace h := h.2.2.2.2.2.2.2.1 k7
                      refine lv_tableIn (off := 334) (tgt := 366) hx hb dXL_law_32 (by rw [k7]; decide) (by rw [k7]; decide) (by rw [k7]; decide) (by decide) ?_
                      refine lv_aload_n hx hb dXL_law_366 rfl (lv_at hl 1 rfl) ?_
                      refine lv_aload_n hx hb dXL_law_367 rfl (lv_at hl 0 rfl) ?_
                      refine lv_iload_n hx hb dXL_law_368 rfl (lv_at hl 3 rfl) ?_
                      refine lv_iconst (v := 1) hx hb dXL_law_369 (by decide) ?_
                      refine lv_iadd hx hb dXL_law_370 ?_
                      obtain ⟨h81, h⟩ := h
                      refine va_sld hx hb hX hbl hbA hS h81 dXL_law_371 ?_
                      obtain ⟨fs83, g84, h⟩ := h
                      refine va_calli (va_runV (As := [.int (post.1 (Int32.toNatClampNeg (v3 + 1)))]) (rest := []) ⟨hx, hb, hml, hown, hts⟩ (cKXW_held (A := lA1 w H) h) (gc_XL_49 hts hN ⟨Nat.le_of_ble_eq_true rfl, Nat.le_of_ble_eq_true rfl⟩) (l_preV g84 rfl hP hS hK hN hE) rfl rfl hl.1 rfl (lv_room (Nat.le_of_ble_eq_true rfl)) dXL_law_372 ⟨show cells + 0 ≤ 600000 by omega, show slots + 0 ≤ 7302250 by omega⟩) hS (fun q _ h2 => l_A1 hP hS h2) (fun q h2 => l_A1 hP hS h2) (fun r82 w_82 t H locs ht hvm h hB hz hk hS2 => ?_)
                      rw [fxC, ht] at hB
                      replace hP := l_afterX hP hS hB hk
                      replace hS := hS2
                      refine W.cs (cells' := cells) (slots' := slots) rfl rfl ?_
                      refine lv_aload_n hx hb dXL_law_375 rfl (lv_at hl 2 rfl) ?_
                      refine lv_aload_n hx hb dXL_law_376 rfl (lv_at hl 0 rfl) ?_
                      refine lv_iload_n hx hb dXL_law_377 rfl (lv_at hl 3 rfl) ?_
                      refine lv_iconst (v := 1) hx hb dXL_law_378 (by decide) ?_
                      refine lv_iadd hx hb dXL_law_379 ?_
                      obtain ⟨h85, h⟩ := h
                      refine va_sld hx hb hX hbl hbA hS h85 dXL_law_380 ?_
                      refine va_calli (va_runV (As := [.int (post.1 (Int32.toNatClampNeg (v3 + 1)))]) (rest := [.int r82]) ⟨hx, hb, hml, hown, hts⟩ (cMheld (l_mDs hP) h) (gc_XL_52 hts hN ⟨Nat.le_of_ble_eq_true rfl, Nat.le_of_ble_eq_true rfl⟩) (l_preM hP hK hN) rfl rfl hl.1 rfl (lv_room (Nat.le_of_ble_eq_true rfl)) dXL_law_381 ⟨show cells + 0 ≤ 600000 by omega, show slots + 0 ≤ 7302250 by omega⟩) hS (fun q _ h2 => l_A2 hP h2) (fun q h2 => l_A2 hP h2) (fun r86 u t H locs ht hvm h hB hz hk hS2 => ?_)
                      rw [fxC, ht] at hB
                      obtain ⟨I_86, J_86, cn_86, cm_86, so_86⟩ := u
                      dsimp only at h
                      replace hP := l_afterM hP hB hk
                      replace hS := hS2
                      refine W.cs (cells' := cells) (slots' := slots) rfl rfl ?_
                      refine lv_icmp_eq (tgt := 699) hx hb dXL_law_384 (by decide) (fun c87 => ?_) (fun c87 => ?_)
                      · replace h := h.1 c87
                        refine lv_iinc (v := v3 + 5) (lv' := [(3, .int (v3 + 5)), (0, .ref b), (1, .ref post.2.2), (2, .ref h0)]) hx hb dXL_law_699 hl (k := 3) rfl rfl (by decide) rfl (fun ls hl => ?_)
                        refine lv_goto (tgt := 18) hx hb dXL_law_702 (by decide) ?_
                        exact hK18 w_82 mc ms I_86 J_86 cn_86 cm_86 so_86 (v3 + 5) h H locs ls hP hS (lv_sub hl [1, 2, 3, 0] rfl) _ _ hbc hbs
                      · replace h := h.2 c87
                        refine lv_iconst (v := 0) hx hb dXL_law_387 (by decide) ?_
                        exact h.elim
                    · skip
                      by_cases k8 : ((post.1 (Int32.toNatClampNeg v3)) &&& 31) = 8
                      · replace h := h.2.2.2.2.2.2.2.2.1 k8
                        refine lv_tableIn (off := 357) (tgt := 389) hx hb dXL_law_32 (by rw [k8]; decide) (by rw [k8]; decide) (by rw [k8]; decide) (by decide) ?_
                        refine lv_aload_n hx hb dXL_law_389 rfl (lv_at hl 1 rfl) ?_
                        refine lv_aload_n hx hb dXL_law_390 rfl (lv_at hl 0 rfl) ?_
                        refine lv_iload_n hx hb dXL_law_391 rfl (lv_at hl 3 rfl) ?_
                        refine lv_iconst (v := 1) hx hb dXL_law_392 (by decide) ?_
                        refine lv_iadd hx hb dXL_law_393 ?_
                        obtain ⟨h88, h⟩ := h
                        refine va_sld hx hb hX hbl hbA hS h88 dXL_law_394 ?_
                        obtain ⟨fs90, g91, h⟩ := h
                        refine va_calli (va_runV (As := [.int (post.1 (Int32.toNatClampNeg (v3 + 1)))]) (rest := []) ⟨hx, hb, hml, hown, hts⟩ (cKXW_waiting (A := lA1 w H) h) (gc_XL_53 hts hN ⟨Nat.le_of_ble_eq_true rfl, Nat.le_of_ble_eq_true rfl⟩) (l_preV g91 rfl hP hS hK hN hE) rfl rfl hl.1 rfl (lv_room (Nat.le_of_ble_eq_true rfl)) dXL_law_395 ⟨show cells + 0 ≤ 600000 by omega, show slots + 0 ≤ 7302250 by omega⟩) hS (fun q _ h2 => l_A1 hP hS h2) (fun q h2 => l_A1 hP hS h2) (fun r89 w_89 t H locs ht hvm h hB hz hk hS2 => ?_)
                        rw [fxC, ht] at hB
                        replace hP := l_afterX hP hS hB hk
                        replace hS := hS2
                        refine W.cs (cells' := cells) (slots' := slots) rfl rfl ?_
                        refine lv_aload_n hx hb dXL_law_398 rfl (lv_at hl 2 rfl) ?_
                        refine lv_aload_n hx hb dXL_law_399 rfl (lv_at hl 0 rfl) ?_
                        refine lv_iload_n hx hb dXL_law_400 rfl (lv_at hl 3 rfl) ?_
                        refine lv_iconst (v := 1) hx hb dXL_law_401 (by decide) ?_
                        refine lv_iadd hx hb dXL_law_402 ?_
                        obtain ⟨h92, h⟩ := h
                        refine va_sld hx hb hX hbl hbA hS h92 dXL_law_403 ?_
                        refine va_calli (va_runV (As := [.int (post.1 (Int32.toNatClampNeg (v3 + 1)))]) (rest := [.int r89]) ⟨hx, hb, hml, hown, hts⟩ (cMwaiting (l_mDs hP) h) (gc_XL_56 hts hN ⟨Nat.le_of_ble_eq_true rfl, Nat.le_of_ble_eq_true rfl⟩) (l_preM hP hK hN) rfl rfl hl.1 rfl (lv_room (Nat.le_of_ble_eq_true rfl)) dXL_law_404 ⟨show cells + 0 ≤ 600000 by omega, show slots + 0 ≤ 7302250 by omega⟩) hS (fun q _ h2 => l_A2 hP h2) (fun q h2 => l_A2 hP h2) (fun r93 u t H locs ht hvm h hB hz hk hS2 => ?_)
                        rw [fxC, ht] at hB
                        obtain ⟨I_93, J_93, cn_93, cm_93, so_93⟩ := u
                        dsimp only at h
                        replace hP := l_afterM hP hB hk
                        replace hS := hS2
                        refine W.cs (cells' := cells) (slots' := slots) rfl rfl ?_
                        refine lv_icmp_eq (tgt := 699) hx hb dXL_law_407 (by decide) (fun c94 => ?_) (fun c94 => ?_)
                        · replace h := h.1 c94
                          refine lv_iinc (v := v3 + 5) (lv' := [(3, .int (v3 + 5)), (0, .ref b), (1, .ref post.2.2), (2, .ref h0)]) hx hb dXL_law_699 hl (k := 3) rfl rfl (by decide) rfl (fun ls hl => ?_)
                          refine lv_goto (tgt := 18) hx hb dXL_law_702 (by decide) ?_
                          exact hK18 w_89 mc ms I_93 J_93 cn_93 cm_93 so_93 (v3 + 5) h H locs ls hP hS (lv_sub hl [1, 2, 3, 0] rfl) _ _ hbc hbs
                        · replace h := h.2 c94
                          refine lv_iconst (v := 0) hx hb dXL_law_410 (by decide) ?_
                          exact h.elim
                      · skip
                        by_cases k9 : ((post.1 (Int32.toNatClampNeg v3)) &&& 31) = 9
                        · replace h := h.2.2.2.2.2.2.2.2.2.1 k9
                          refine lv_tableIn (off := 380) (tgt := 412) hx hb dXL_law_32 (by rw [k9]; decide) (by rw [k9]; decide) (by rw [k9]; decide) (by decide) ?_
                          refine lv_aload_n hx hb dXL_law_412 rfl (lv_at hl 1 rfl) ?_
                          refine lv_aload_n hx hb dXL_law_413 rfl (lv_at hl 0 rfl) ?_
                          refine lv_iload_n hx hb dXL_law_414 rfl (lv_at hl 3 rfl) ?_
                          refine lv_iconst (v := 1) hx hb dXL_law_415 (by decide) ?_
                          refine lv_iadd hx hb dXL_law_416 ?_
                          obtain ⟨h95, h⟩ := h
                          refine va_sld hx hb hX hbl hbA hS h95 dXL_law_417 ?_
                          refine lv_aload_n hx hb dXL_law_418 rfl (lv_at hl 0 rfl) ?_
                          refine lv_iload_n hx hb dXL_law_419 rfl (lv_at hl 3 rfl) ?_
                          refine lv_iconst (v := 2) hx hb dXL_law_420 (by decide) ?_
                          refine lv_iadd hx hb dXL_law_421 ?_
                          obtain ⟨h96, h⟩ := h
                          refine va_sld hx hb hX hbl hbA hS h96 dXL_law_422 ?_
                          refine lv_i2l (v := Int32.toInt64 (post.1 (Int32.toNatClampNeg (v3 + 2)))) hx hb dXL_law_423 rfl ?_
                          refine lv_bipush (v := 32) hx hb dXL_law_424 (by decide) ?_
                          refine lv_lshl (v := hj_shl (Int32.toInt64 (post.1 (Int32.toNatClampNeg (v3 + 2)))) 32) hx hb dXL_law_426 rfl ?_
                          refine lv_aload_n hx hb dXL_law_427 rfl (lv_at hl 0 rfl) ?_
                          refine lv_iload_n hx hb dXL_law_428 rfl (lv_at hl 3 rfl) ?_
                          refine lv_iconst (v := 3) hx hb dXL_law_429 (by decide) ?_
                          refine lv_iadd hx hb dXL_law_430 ?_
                          obtain ⟨h97, h⟩ := h
                          refine va_sld hx hb hX hbl hbA hS h97 dXL_law_431 ?_
                          refine lv_i2l (v := Int32.toInt64 (post.1 (Int32.toNatClampNeg (v3 + 3)))) hx hb dXL_law_432 rfl ?_
                          refine lv_ldc2 (v := 4294967295) hx hb hown (hts (.constantLong RXL 23 4294967295) (fx_m (by decide +kernel))) dXL_law_433 ?_
                          refine lv_land hx hb dXL_law_436 ?_
                          refine lv_lor hx hb dXL_law_437 ?_
                          obtain ⟨fs99, g100, h⟩ := h
                          refine va_calli (va_runV (As := [.int (post.1 (Int32.toNatClampNeg (v3 + 1))), .long ((hj_shl (Int32.toInt64 (post.1 (Int32.toNatClampNeg (v3 + 2)))) 32) ||| ((Int32.toInt64 (post.1 (Int32.toNatClampNeg (v3 + 3)))) &&& 4294967295))]) (rest := []) ⟨hx, hb, hml, hown, hts⟩ (cKXW_has (A := lA1 w H) h) (gc_XL_57 hts hN ⟨Nat.le_of_ble_eq_true rfl, Nat.le_of_ble_eq_true rfl⟩) (l_preV g100 rfl hP hS hK hN hE) rfl rfl hl.1 rfl (lv_room (Nat.le_of_ble_eq_true rfl)) dXL_law_438 ⟨show cells + 0 ≤ 600000 by omega, show slots + 0 ≤ 7302250 by omega⟩) hS (fun q _ h2 => l_A1 hP hS h2) (fun q h2 => l_A1 hP hS h2) (fun r98 w_98 t H locs ht hvm h hB hz hk hS2 => ?_)
                          rw [fxC, ht] at hB
                          replace hP := l_afterX hP hS hB hk
                          replace hS := hS2
                          refine W.cs (cells' := cells) (slots' := slots) rfl rfl ?_
                          refine lv_aload_n hx hb dXL_law_441 rfl (lv_at hl 2 rfl) ?_
                          refine lv_aload_n hx hb dXL_law_442 rfl (lv_at hl 0 rfl) ?_
                          refine lv_iload_n hx hb dXL_law_443 rfl (lv_at hl 3 rfl) ?_
                          refine lv_iconst (v := 1) hx hb dXL_law_444 (by decide) ?_
                          refine lv_iadd hx hb dXL_law_445 ?_
                          obtain ⟨h101, h⟩ := h
                          refine va_sld hx hb hX hbl hbA hS h101 dXL_law_446 ?_
                          refine lv_aload_n hx hb dXL_law_447 rfl (lv_at hl 0 rfl) ?_
                          refine lv_iload_n hx hb dXL_law_448 rfl (lv_at hl 3 rfl) ?_
                          refine lv_iconst (v := 2) hx hb dXL_law_449 (by decide) ?_
                          refine lv_iadd hx hb dXL_law_450 ?_
                          obtain ⟨h102, h⟩ := h
                          refine va_sld hx hb hX hbl hbA hS h102 dXL_law_451 ?_
                          refine lv_i2l (v := Int32.toInt64 (post.1 (Int32.toNatClampNeg (v3 + 2)))) hx hb dXL_law_452 rfl ?_
                          refine lv_bipush (v := 32) hx hb dXL_law_453 (by decide) ?_
                          refine lv_lshl (v := hj_shl (Int32.toInt64 (post.1 (Int32.toNatClampNeg (v3 + 2)))) 32) hx hb dXL_law_455 rfl ?_
                          refine lv_aload_n hx hb dXL_law_456 rfl (lv_at hl 0 rfl) ?_
                          refine lv_iload_n hx hb dXL_law_457 rfl (lv_at hl 3 rfl) ?_
                          refine lv_iconst (v := 3) hx hb dXL_law_458 (by decide) ?_
                          refine lv_iadd hx hb dXL_law_459 ?_
                          obtain ⟨h103, h⟩ := h
                          refine va_sld hx hb hX hbl hbA hS h103 dXL_law_460 ?_
                          refine lv_i2l (v := Int32.toInt64 (post.1 (Int32.toNatClampNeg (v3 + 3)))) hx hb dXL_law_461 rfl ?_
                          refine lv_ldc2 (v := 4294967295) hx hb hown (hts (.constantLong RXL 23 4294967295) (fx_m (by decide +kernel))) dXL_law_462 ?_
                          refine lv_land hx hb dXL_law_465 ?_
                          refine lv_lor hx hb dXL_law_466 ?_
                          refine va_calli (va_runV (As := [.int (post.1 (Int32.toNatClampNeg (v3 + 1))), .long ((hj_shl (Int32.toInt64 (post.1 (Int32.toNatClampNeg (v3 + 2)))) 32) ||| ((Int32.toInt64 (post.1 (Int32.toNatClampNeg (v3 + 3)))) &&& 4294967295))]) (rest := [.int r98]) ⟨hx, hb, hml, hown, hts⟩ (cMhas (l_mDs hP) h) (gc_XL_61 hts hN ⟨Nat.le_of_ble_eq_true rfl, Nat.le_of_ble_eq_true rfl⟩) (l_preM hP hK hN) rfl rfl hl.1 rfl (lv_room (Nat.le_of_ble_eq_true rfl)) dXL_law_467 ⟨show cells + 0 ≤ 600000 by omega, show slots + 0 ≤ 7302250 by omega⟩) hS (fun q _ h2 => l_A2 hP h2) (fun q h2 => l_A2 hP h2) (fun r104 u t H locs ht hvm h hB hz hk hS2 => ?_)
                          rw [fxC, ht] at hB
                          obtain ⟨I_104, J_104, cn_104, cm_104, so_104⟩ := u
                          dsimp only at h
                          replace hP := l_afterM hP hB hk
                          replace hS := hS2
                          refine W.cs (cells' := cells) (slots' := slots) rfl rfl ?_
                          refine lv_icmp_eq (tgt := 699) hx hb dXL_law_470 (by decide) (fun c105 => ?_) (fun c105 => ?_)
                          · replace h := h.1 c105
                            refine lv_iinc (v := v3 + 5) (lv' := [(3, .int (v3 + 5)), (0, .ref b), (1, .ref post.2.2), (2, .ref h0)]) hx hb dXL_law_699 hl (k := 3) rfl rfl (by decide) rfl (fun ls hl => ?_)
                            refine lv_goto (tgt := 18) hx hb dXL_law_702 (by decide) ?_
                            exact hK18 w_98 mc ms I_104 J_104 cn_104 cm_104 so_104 (v3 + 5) h H locs ls hP hS (lv_sub hl [1, 2, 3, 0] rfl) _ _ hbc hbs
                          · replace h := h.2 c105
                            refine lv_iconst (v := 0) hx hb dXL_law_473 (by decide) ?_
                            exact h.elim
                        · skip
                          by_cases k10 : ((post.1 (Int32.toNatClampNeg v3)) &&& 31) = 10
                          · replace h := h.2.2.2.2.2.2.2.2.2.2.1 k10
                            refine lv_tableIn (off := 443) (tgt := 475) hx hb dXL_law_32 (by rw [k10]; decide) (by rw [k10]; decide) (by rw [k10]; decide) (by decide) ?_
                            refine lv_aload_n hx hb dXL_law_475 rfl (lv_at hl 1 rfl) ?_
                            refine lv_aload_n hx hb dXL_law_476 rfl (lv_at hl 0 rfl) ?_
                            refine lv_iload_n hx hb dXL_law_477 rfl (lv_at hl 3 rfl) ?_
                            refine lv_iconst (v := 1) hx hb dXL_law_478 (by decide) ?_
                            refine lv_iadd hx hb dXL_law_479 ?_
                            obtain ⟨h106, h⟩ := h
                            refine va_sld hx hb hX hbl hbA hS h106 dXL_law_480 ?_
                            refine lv_aload_n hx hb dXL_law_481 rfl (lv_at hl 0 rfl) ?_
                            refine lv_iload_n hx hb dXL_law_482 rfl (lv_at hl 3 rfl) ?_
                            refine lv_iconst (v := 2) hx hb dXL_law_483 (by decide) ?_
                            refine lv_iadd hx hb dXL_law_484 ?_
                            obtain ⟨h107, h⟩ := h
                            refine va_sld hx hb hX hbl hbA hS h107 dXL_law_485 ?_
                            obtain ⟨fs109, g110, h⟩ := h
                            refine va_calll (va_runV (As := [.int (post.1 (Int32.toNatClampNeg (v3 + 1))), .int (post.1 (Int32.toNatClampNeg (v3 + 2)))]) (rest := []) ⟨hx, hb, hml, hown, hts⟩ (cKXW_hashAt (A := lA1 w H) h) (gc_XL_62 hts hN ⟨Nat.le_of_ble_eq_true rfl, Nat.le_of_ble_eq_true rfl⟩) (l_preV g110 rfl hP hS hK hN hE) rfl rfl hl.1 rfl (lv_room (Nat.le_of_ble_eq_true rfl)) dXL_law_486 ⟨show cells + 0 ≤ 600000 by omega, show slots + 0 ≤ 7302250 by omega⟩) hS (fun q _ h2 => l_A1 hP hS h2) (fun q h2 => l_A1 hP hS h2) (fun r108 w_108 t H locs ht hvm h hB hz hk hS2 => ?_)
                            rw [fxC, ht] at hB
                            replace hP := l_afterX hP hS hB hk
                            replace hS := hS2
                            refine W.cs (cells' := cells) (slots' := slots) rfl rfl ?_
                            refine lv_aload_n hx hb dXL_law_489 rfl (lv_at hl 2 rfl) ?_
                            refine lv_aload_n hx hb dXL_law_490 rfl (lv_at hl 0 rfl) ?_
                            refine lv_iload_n hx hb dXL_law_491 rfl (lv_at hl 3 rfl) ?_
                            refine lv_iconst (v := 1) hx hb dXL_law_492 (by decide) ?_
                            refine lv_iadd hx hb dXL_law_493 ?_
                            obtain ⟨h111, h⟩ := h
                            refine va_sld hx hb hX hbl hbA hS h111 dXL_law_494 ?_
                            refine lv_aload_n hx hb dXL_law_495 rfl (lv_at hl 0 rfl) ?_
                            refine lv_iload_n hx hb dXL_law_496 rfl (lv_at hl 3 rfl) ?_
                            refine lv_iconst (v := 2) hx hb dXL_law_497 (by decide) ?_
                            refine lv_iadd hx hb dXL_law_498 ?_
                            obtain ⟨h112, h⟩ := h
                            refine va_sld hx hb hX hbl hbA hS h112 dXL_law_499 ?_
                            refine va_calll (va_runV (As := [.int (post.1 (Int32.toNatClampNeg (v3 + 1))), .int (post.1 (Int32.toNatClampNeg (v3 + 2)))]) (rest := [.long r108]) ⟨hx, hb, hml, hown, hts⟩ (cMhashAt (l_mDs hP) h) (gc_XL_66 hts hN ⟨Nat.le_of_ble_eq_true rfl, Nat.le_of_ble_eq_true rfl⟩) (l_preM hP hK hN) rfl rfl hl.1 rfl (lv_room (Nat.le_of_ble_eq_true rfl)) dXL_law_500 ⟨show cells + 0 ≤ 600000 by omega, show slots + 0 ≤ 7302250 by omega⟩) hS (fun q _ h2 => l_A2 hP h2) (fun q h2 => l_A2 hP h2) (fun r113 u t H locs ht hvm h hB hz hk hS2 => ?_)
                            rw [fxC, ht] at hB
                            obtain ⟨I_113, J_113, cn_113, cm_113, so_113⟩ := u
                            dsimp only at h
                            replace hP := l_afterM hP hB hk
                            replace hS := hS2
                            refine W.cs (cells' := cells) (slots' := slots) rfl rfl ?_
                            refine W.lcmp hx hb dXL_law_503 ?_
                            refine lv_if_eq (tgt := 699) hx hb dXL_law_504 (by decide) (fun c114 => ?_) (fun c114 => ?_)
                            · replace h := h.1 c114
                              refine lv_iinc (v := v3 + 5) (lv' := [(3, .int (v3 + 5)), (0, .ref b), (1, .ref post.2.2), (2, .ref h0)]) hx hb dXL_law_699 hl (k := 3) rfl rfl (by decide) rfl (fun ls hl => ?_)
                              refine lv_goto (tgt := 18) hx hb dXL_law_702 (by decide) ?_
                              exact hK18 w_108 mc ms I_113 J_113 cn_113 cm_113 so_113 (v3 + 5) h H locs ls hP hS (lv_sub hl [1, 2, 3, 0] rfl) _ _ hbc hbs
                            · replace h := h.2 c114
                              refine lv_iconst (v := 0) hx hb dXL_law_507 (by decide) ?_
                              exact h.elim
                          · skip
                            by_cases k11 : ((post.1 (Int32.toNatClampNeg v3)) &&& 31) = 11
                            · replace h := h.2.2.2.2.2.2.2.2.2.2.2.1 k11
                              refine lv_tableIn (off := 477) (tgt := 509) hx hb dXL_law_32 (by rw [k11]; decide) (by rw [k11]; decide) (by rw [k11]; decide) (by decide) ?_
                              refine lv_aload_n hx hb dXL_law_509 rfl (lv_at hl 1 rfl) ?_
                              refine lv_aload_n hx hb dXL_law_510 rfl (lv_at hl 0 rfl) ?_
                              refine lv_iload_n hx hb dXL_law_511 rfl (lv_at hl 3 rfl) ?_
                              refine lv_iconst (v := 1) hx hb dXL_law_512 (by decide) ?_
                              refine lv_iadd hx hb dXL_law_513 ?_
                              obtain ⟨h115, h⟩ := h
                              refine va_sld hx hb hX hbl hbA hS h115 dXL_law_514 ?_
                              refine lv_aload_n hx hb dXL_law_515 rfl (lv_at hl 0 rfl) ?_
                              refine lv_iload_n hx hb dXL_law_516 rfl (lv_at hl 3 rfl) ?_
                              refine lv_iconst (v := 2) hx hb dXL_law_517 (by decide) ?_
                              refine lv_iadd hx hb dXL_law_518 ?_
                              obtain ⟨h116, h⟩ := h
                              refine va_sld hx hb hX hbl hbA hS h116 dXL_law_519 ?_
                              refine lv_aload_n hx hb dXL_law_520 rfl (lv_at hl 0 rfl) ?_
                              refine lv_iload_n hx hb dXL_law_521 rfl (lv_at hl 3 rfl) ?_
                              refine lv_iconst (v := 3) hx hb dXL_law_522 (by decide) ?_
                              refine lv_iadd hx hb dXL_law_523 ?_
                              obtain ⟨h117, h⟩ := h
                              refine va_sld hx hb hX hbl hbA hS h117 dXL_law_524 ?_
                              obtain ⟨fs119, g120, h⟩ := h
                              refine va_calli (va_runV (As := [.int (post.1 (Int32.toNatClampNeg (v3 + 1))), .int (post.1 (Int32.toNatClampNeg (v3 + 2))), .int (post.1 (Int32.toNatClampNeg (v3 + 3)))]) (rest := []) ⟨hx, hb, hml, hown, hts⟩ (cKXW_about (A := lA1 w H) h) (gc_XL_67 hts hN ⟨Nat.le_of_ble_eq_true rfl, Nat.le_of_ble_eq_true rfl⟩) (l_preV g120 rfl hP hS hK hN hE) rfl rfl hl.1 rfl (lv_room (Nat.le_of_ble_eq_true rfl)) dXL_law_525 ⟨show cells + 0 ≤ 600000 by omega, show slots + 0 ≤ 7302250 by omega⟩) hS (fun q _ h2 => l_A1 hP hS h2) (fun q h2 => l_A1 hP hS h2) (fun r118 w_118 t H locs ht hvm h hB hz hk hS2 => ?_)
                              rw [fxC, ht] at hB
                              replace hP := l_afterX hP hS hB hk
                              replace hS := hS2
                              refine W.cs (cells' := cells) (slots' := slots) rfl rfl ?_
                              refine lv_aload_n hx hb dXL_law_528 rfl (lv_at hl 2 rfl) ?_
                              refine lv_aload_n hx hb dXL_law_529 rfl (lv_at hl 0 rfl) ?_
                              refine lv_iload_n hx hb dXL_law_530 rfl (lv_at hl 3 rfl) ?_
                              refine lv_iconst (v := 1) hx hb dXL_law_531 (by decide) ?_
                              refine lv_iadd hx hb dXL_law_532 ?_
                              obtain ⟨h121, h⟩ := h
                              refine va_sld hx hb hX hbl hbA hS h121 dXL_law_533 ?_
                              refine lv_aload_n hx hb dXL_law_534 rfl (lv_at hl 0 rfl) ?_
                              refine lv_iload_n hx hb dXL_law_535 rfl (lv_at hl 3 rfl) ?_
                              refine lv_iconst (v := 2) hx hb dXL_law_536 (by decide) ?_
                              refine lv_iadd hx hb dXL_law_537 ?_
                              obtain ⟨h122, h⟩ := h
                              refine va_sld hx hb hX hbl hbA hS h122 dXL_law_538 ?_
                              refine lv_aload_n hx hb dXL_law_539 rfl (lv_at hl 0 rfl) ?_
                              refine lv_iload_n hx hb dXL_law_540 rfl (lv_at hl 3 rfl) ?_
                              refine lv_iconst (v := 3) hx hb dXL_law_541 (by decide) ?_
                              refine lv_iadd hx hb dXL_law_542 ?_
                              obtain ⟨h123, h⟩ := h
                              refine va_sld hx hb hX hbl hbA hS h123 dXL_law_543 ?_
                              refine va_calli (va_runV (As := [.int (post.1 (Int32.toNatClampNeg (v3 + 1))), .int (post.1 (Int32.toNatClampNeg (v3 + 2))), .int (post.1 (Int32.toNatClampNeg (v3 + 3)))]) (rest := [.int r118]) ⟨hx, hb, hml, hown, hts⟩ (cMabout (l_mDs hP) h) (gc_XL_71 hts hN ⟨Nat.le_of_ble_eq_true rfl, Nat.le_of_ble_eq_true rfl⟩) (l_preM hP hK hN) rfl rfl hl.1 rfl (lv_room (Nat.le_of_ble_eq_true rfl)) dXL_law_544 ⟨show cells + 0 ≤ 600000 by omega, show slots + 0 ≤ 7302250 by omega⟩) hS (fun q _ h2 => l_A2 hP h2) (fun q h2 => l_A2 hP h2) (fun r124 u t H locs ht hvm h hB hz hk hS2 => ?_)
                              rw [fxC, ht] at hB
                              obtain ⟨I_124, J_124, cn_124, cm_124, so_124⟩ := u
                              dsimp only at h
                              replace hP := l_afterM hP hB hk
                              replace hS := hS2
                              refine W.cs (cells' := cells) (slots' := slots) rfl rfl ?_
                              refine lv_icmp_eq (tgt := 699) hx hb dXL_law_547 (by decide) (fun c125 => ?_) (fun c125 => ?_)
                              · replace h := h.1 c125
                                refine lv_iinc (v := v3 + 5) (lv' := [(3, .int (v3 + 5)), (0, .ref b), (1, .ref post.2.2), (2, .ref h0)]) hx hb dXL_law_699 hl (k := 3) rfl rfl (by decide) rfl (fun ls hl => ?_)
                                refine lv_goto (tgt := 18) hx hb dXL_law_702 (by decide) ?_
                                exact hK18 w_118 mc ms I_124 J_124 cn_124 cm_124 so_124 (v3 + 5) h H locs ls hP hS (lv_sub hl [1, 2, 3, 0] rfl) _ _ hbc hbs
                              · replace h := h.2 c125
                                refine lv_iconst (v := 0) hx hb dXL_law_550 (by decide) ?_
                                exact h.elim
                            · skip
                              by_cases k12 : ((post.1 (Int32.toNatClampNeg v3)) &&& 31) = 12
                              · replace h := h.2.2.2.2.2.2.2.2.2.2.2.2.1 k12
                                refine lv_tableIn (off := 520) (tgt := 552) hx hb dXL_law_32 (by rw [k12]; decide) (by rw [k12]; decide) (by rw [k12]; decide) (by decide) ?_
                                refine lv_aload_n hx hb dXL_law_552 rfl (lv_at hl 1 rfl) ?_
                                refine lv_aload_n hx hb dXL_law_553 rfl (lv_at hl 0 rfl) ?_
                                refine lv_iload_n hx hb dXL_law_554 rfl (lv_at hl 3 rfl) ?_
                                refine lv_iconst (v := 1) hx hb dXL_law_555 (by decide) ?_
                                refine lv_iadd hx hb dXL_law_556 ?_
                                obtain ⟨h126, h⟩ := h
                                refine va_sld hx hb hX hbl hbA hS h126 dXL_law_557 ?_
                                refine lv_aload_n hx hb dXL_law_558 rfl (lv_at hl 0 rfl) ?_
                                refine lv_iload_n hx hb dXL_law_559 rfl (lv_at hl 3 rfl) ?_
                                refine lv_iconst (v := 2) hx hb dXL_law_560 (by decide) ?_
                                refine lv_iadd hx hb dXL_law_561 ?_
                                obtain ⟨h127, h⟩ := h
                                refine va_sld hx hb hX hbl hbA hS h127 dXL_law_562 ?_
                                refine lv_aload_n hx hb dXL_law_563 rfl (lv_at hl 0 rfl) ?_
                                refine lv_iload_n hx hb dXL_law_564 rfl (lv_at hl 3 rfl) ?_
                                refine lv_iconst (v := 3) hx hb dXL_law_565 (by decide) ?_
                                refine lv_iadd hx hb dXL_law_566 ?_
                                obtain ⟨h128, h⟩ := h
                                refine va_sld hx hb hX hbl hbA hS h128 dXL_law_567 ?_
                                obtain ⟨fs130, g131, h⟩ := h
                                refine va_calll (va_runV (As := [.int (post.1 (Int32.toNatClampNeg (v3 + 1))), .int (post.1 (Int32.toNatClampNeg (v3 + 2))), .int (post.1 (Int32.toNatClampNeg (v3 + 3)))]) (rest := []) ⟨hx, hb, hml, hown, hts⟩ (cKXW_linkAt (A := lA1 w H) h) (gc_XL_72 hts hN ⟨Nat.le_of_ble_eq_true rfl, Nat.le_of_ble_eq_true rfl⟩) (l_preV g131 rfl hP hS hK hN hE) rfl rfl hl.1 rfl (lv_room (Nat.le_of_ble_eq_true rfl)) dXL_law_568 ⟨show cells + 0 ≤ 600000 by omega, show slots + 0 ≤ 7302250 by omega⟩) hS (fun q _ h2 => l_A1 hP hS h2) (fun q h2 => l_A1 hP hS h2) (fun r129 w_129 t H locs ht hvm h hB hz hk hS2 => ?_)
                                rw [fxC, ht] at hB
                                replace hP := l_afterX hP hS hB hk
                                replace hS := hS2
                                refine W.cs (cells' := cells) (slots' := slots) rfl rfl ?_
                                refine lv_aload_n hx hb dXL_law_571 rfl (lv_at hl 2 rfl) ?_
                                refine lv_aload_n hx hb dXL_law_572 rfl (lv_at hl 0 rfl) ?_
                                refine lv_iload_n hx hb dXL_law_573 rfl (lv_at hl 3 rfl) ?_
                                refine lv_iconst (v := 1) hx hb dXL_law_574 (by decide) ?_
                                refine lv_iadd hx hb dXL_law_575 ?_
                                obtain ⟨h132, h⟩ := h
                                refine va_sld hx hb hX hbl hbA hS h132 dXL_law_576 ?_
                                refine lv_aload_n hx hb dXL_law_577 rfl (lv_at hl 0 rfl) ?_
                                refine lv_iload_n hx hb dXL_law_578 rfl (lv_at hl 3 rfl) ?_
                                refine lv_iconst (v := 2) hx hb dXL_law_579 (by decide) ?_
                                refine lv_iadd hx hb dXL_law_580 ?_
                                obtain ⟨h133, h⟩ := h
                                refine va_sld hx hb hX hbl hbA hS h133 dXL_law_581 ?_
                                refine lv_aload_n hx hb dXL_law_582 rfl (lv_at hl 0 rfl) ?_
                                refine lv_iload_n hx hb dXL_law_583 rfl (lv_at hl 3 rfl) ?_
                                refine lv_iconst (v := 3) hx hb dXL_law_584 (by decide) ?_
                                refine lv_iadd hx hb dXL_law_585 ?_
                                obtain ⟨h134, h⟩ := h
                                refine va_sld hx hb hX hbl hbA hS h134 dXL_law_586 ?_
                                refine va_calll (va_runV (As := [.int (post.1 (Int32.toNatClampNeg (v3 + 1))), .int (post.1 (Int32.toNatClampNeg (v3 + 2))), .int (post.1 (Int32.toNatClampNeg (v3 + 3)))]) (rest := [.long r129]) ⟨hx, hb, hml, hown, hts⟩ (cMlinkAt (l_mDs hP) h) (gc_XL_76 hts hN ⟨Nat.le_of_ble_eq_true rfl, Nat.le_of_ble_eq_true rfl⟩) (l_preM hP hK hN) rfl rfl hl.1 rfl (lv_room (Nat.le_of_ble_eq_true rfl)) dXL_law_587 ⟨show cells + 0 ≤ 600000 by omega, show slots + 0 ≤ 7302250 by omega⟩) hS (fun q _ h2 => l_A2 hP h2) (fun q h2 => l_A2 hP h2) (fun r135 u t H locs ht hvm h hB hz hk hS2 => ?_)
                                rw [fxC, ht] at hB
                                obtain ⟨I_135, J_135, cn_135, cm_135, so_135⟩ := u
                                dsimp only at h
                                replace hP := l_afterM hP hB hk
                                replace hS := hS2
                                refine W.cs (cells' := cells) (slots' := slots) rfl rfl ?_
                                refine W.lcmp hx hb dXL_law_590 ?_
                                refine lv_if_eq (tgt := 699) hx hb dXL_law_591 (by decide) (fun c136 => ?_) (fun c136 => ?_)
                                · replace h := h.1 c136
                                  refine lv_iinc (v := v3 + 5) (lv' := [(3, .int (v3 + 5)), (0, .ref b), (1, .ref post.2.2), (2, .ref h0)]) hx hb dXL_law_699 hl (k := 3) rfl rfl (by decide) rfl (fun ls hl => ?_)
                                  refine lv_goto (tgt := 18) hx hb dXL_law_702 (by decide) ?_
                                  exact hK18 w_129 mc ms I_135 J_135 cn_135 cm_135 so_135 (v3 + 5) h H locs ls hP hS (lv_sub hl [1, 2, 3, 0] rfl) _ _ hbc hbs
                                · replace h := h.2 c136
                                  refine lv_iconst (v := 0) hx hb dXL_law_594 (by decide) ?_
                                  exact h.elim
                              · skip
                                by_cases k13 : ((post.1 (Int32.toNatClampNeg v3)) &&& 31) = 13
                                · replace h := h.2.2.2.2.2.2.2.2.2.2.2.2.2.1 k13
                                  refine lv_tableIn (off := 564) (tgt := 596) hx hb dXL_law_32 (by rw [k13]; decide) (by rw [k13]; decide) (by rw [k13]; decide) (by decide) ?_
                                  refine lv_aload_n hx hb dXL_law_596 rfl (lv_at hl 1 rfl) ?_
                                  refine lv_aload_n hx hb dXL_law_597 rfl (lv_at hl 0 rfl) ?_
                                  refine lv_iload_n hx hb dXL_law_598 rfl (lv_at hl 3 rfl) ?_
                                  refine lv_iconst (v := 1) hx hb dXL_law_599 (by decide) ?_
                                  refine lv_iadd hx hb dXL_law_600 ?_
                                  obtain ⟨h137, h⟩ := h
                                  refine va_sld hx hb hX hbl hbA hS h137 dXL_law_601 ?_
                                  obtain ⟨fs139, g140, h⟩ := h
                                  refine va_calli (va_runV (As := [.int (post.1 (Int32.toNatClampNeg (v3 + 1)))]) (rest := []) ⟨hx, hb, hml, hown, hts⟩ (cKXW_heads (A := lA1 w H) h) (gc_XL_77 hts hN ⟨Nat.le_of_ble_eq_true rfl, Nat.le_of_ble_eq_true rfl⟩) (l_preV g140 rfl hP hS hK hN hE) rfl rfl hl.1 rfl (lv_room (Nat.le_of_ble_eq_true rfl)) dXL_law_602 ⟨show cells + 0 ≤ 600000 by omega, show slots + 0 ≤ 7302250 by omega⟩) hS (fun q _ h2 => l_A1 hP hS h2) (fun q h2 => l_A1 hP hS h2) (fun r138 w_138 t H locs ht hvm h hB hz hk hS2 => ?_)
                                  rw [fxC, ht] at hB
                                  replace hP := l_afterX hP hS hB hk
                                  replace hS := hS2
                                  refine W.cs (cells' := cells) (slots' := slots) rfl rfl ?_
                                  refine lv_aload_n hx hb dXL_law_605 rfl (lv_at hl 2 rfl) ?_
                                  refine lv_aload_n hx hb dXL_law_606 rfl (lv_at hl 0 rfl) ?_
                                  refine lv_iload_n hx hb dXL_law_607 rfl (lv_at hl 3 rfl) ?_
                                  refine lv_iconst (v := 1) hx hb dXL_law_608 (by decide) ?_
                                  refine lv_iadd hx hb dXL_law_609 ?_
                                  obtain ⟨h141, h⟩ := h
                                  refine va_sld hx hb hX hbl hbA hS h141 dXL_law_610 ?_
                                  refine va_calli (va_runV (As := [.int (post.1 (Int32.toNatClampNeg (v3 + 1)))]) (rest := [.int r138]) ⟨hx, hb, hml, hown, hts⟩ (cMheads (l_mDs hP) h) (gc_XL_80 hts hN ⟨Nat.le_of_ble_eq_true rfl, Nat.le_of_ble_eq_true rfl⟩) (l_preM hP hK hN) rfl rfl hl.1 rfl (lv_room (Nat.le_of_ble_eq_true rfl)) dXL_law_611 ⟨show cells + 0 ≤ 600000 by omega, show slots + 0 ≤ 7302250 by omega⟩) hS (fun q _ h2 => l_A2 hP h2) (fun q h2 => l_A2 hP h2) (fun r142 u t H locs ht hvm h hB hz hk hS2 => ?_)
                                  rw [fxC, ht] at hB
                                  obtain ⟨I_142, J_142, cn_142, cm_142, so_142⟩ := u
                                  dsimp only at h
                                  replace hP := l_afterM hP hB hk
                                  replace hS := hS2
                                  refine W.cs (cells' := cells) (slots' := slots) rfl rfl ?_
                                  refine lv_icmp_eq (tgt := 699) hx hb dXL_law_614 (by decide) (fun c143 => ?_) (fun c143 => ?_)
                                  · replace h := h.1 c143
                                    refine lv_iinc (v := v3 + 5) (lv' := [(3, .int (v3 + 5)), (0, .ref b), (1, .ref post.2.2), (2, .ref h0)]) hx hb dXL_law_699 hl (k := 3) rfl rfl (by decide) rfl (fun ls hl => ?_)
                                    refine lv_goto (tgt := 18) hx hb dXL_law_702 (by decide) ?_
                                    exact hK18 w_138 mc ms I_142 J_142 cn_142 cm_142 so_142 (v3 + 5) h H locs ls hP hS (lv_sub hl [1, 2, 3, 0] rfl) _ _ hbc hbs
                                  · replace h := h.2 c143
                                    refine lv_iconst (v := 0) hx hb dXL_law_617 (by decide) ?_
                                    exact h.elim
                                · skip
                                  by_cases k14 : ((post.1 (Int32.toNatClampNeg v3)) &&& 31) = 14
                                  · replace h := h.2.2.2.2.2.2.2.2.2.2.2.2.2.2.1 k14
                                    refine lv_tableIn (off := 587) (tgt := 619) hx hb dXL_law_32 (by rw [k14]; decide) (by rw [k14]; decide) (by rw [k14]; decide) (by decide) ?_
                                    refine lv_aload_n hx hb dXL_law_619 rfl (lv_at hl 1 rfl) ?_
                                    refine lv_aload_n hx hb dXL_law_620 rfl (lv_at hl 0 rfl) ?_
                                    refine lv_iload_n hx hb dXL_law_621 rfl (lv_at hl 3 rfl) ?_
                                    refine lv_iconst (v := 1) hx hb dXL_law_622 (by decide) ?_
                                    refine lv_iadd hx hb dXL_law_623 ?_
                                    obtain ⟨h144, h⟩ := h
                                    refine va_sld hx hb hX hbl hbA hS h144 dXL_law_624 ?_
                                    refine lv_aload_n hx hb dXL_law_625 rfl (lv_at hl 0 rfl) ?_
                                    refine lv_iload_n hx hb dXL_law_626 rfl (lv_at hl 3 rfl) ?_
                                    refine lv_iconst (v := 2) hx hb dXL_law_627 (by decide) ?_
                                    refine lv_iadd hx hb dXL_law_628 ?_
                                    obtain ⟨h145, h⟩ := h
                                    refine va_sld hx hb hX hbl hbA hS h145 dXL_law_629 ?_
                                    obtain ⟨fs147, g148, h⟩ := h
                                    refine va_calll (va_runV (As := [.int (post.1 (Int32.toNatClampNeg (v3 + 1))), .int (post.1 (Int32.toNatClampNeg (v3 + 2)))]) (rest := []) ⟨hx, hb, hml, hown, hts⟩ (cKXW_headAt (A := lA1 w H) h) (gc_XL_81 hts hN ⟨Nat.le_of_ble_eq_true rfl, Nat.le_of_ble_eq_true rfl⟩) (l_preV g148 rfl hP hS hK hN hE) rfl rfl hl.1 rfl (lv_room (Nat.le_of_ble_eq_true rfl)) dXL_law_630 ⟨show cells + 0 ≤ 600000 by omega, show slots + 0 ≤ 7302250 by omega⟩) hS (fun q _ h2 => l_A1 hP hS h2) (fun q h2 => l_A1 hP hS h2) (fun r146 w_146 t H locs ht hvm h hB hz hk hS2 => ?_)
                                    rw [fxC, ht] at hB
                                    replace hP := l_afterX hP hS hB hk
                                    replace hS := hS2
                                    refine W.cs (cells' := cells) (slots' := slots) rfl rfl ?_
                                    refine lv_aload_n hx hb dXL_law_633 rfl (lv_at hl 2 rfl) ?_
                                    refine lv_aload_n hx hb dXL_law_634 rfl (lv_at hl 0 rfl) ?_
                                    refine lv_iload_n hx hb dXL_law_635 rfl (lv_at hl 3 rfl) ?_
                                    refine lv_iconst (v := 1) hx hb dXL_law_636 (by decide) ?_
                                    refine lv_iadd hx hb dXL_law_637 ?_
                                    obtain ⟨h149, h⟩ := h
                                    refine va_sld hx hb hX hbl hbA hS h149 dXL_law_638 ?_
                                    refine lv_aload_n hx hb dXL_law_639 rfl (lv_at hl 0 rfl) ?_
                                    refine lv_iload_n hx hb dXL_law_640 rfl (lv_at hl 3 rfl) ?_
                                    refine lv_iconst (v := 2) hx hb dXL_law_641 (by decide) ?_
                                    refine lv_iadd hx hb dXL_law_642 ?_
                                    obtain ⟨h150, h⟩ := h
                                    refine va_sld hx hb hX hbl hbA hS h150 dXL_law_643 ?_
                                    refine va_calll (va_runV (As := [.int (post.1 (Int32.toNatClampNeg (v3 + 1))), .int (post.1 (Int32.toNatClampNeg (v3 + 2)))]) (rest := [.long r146]) ⟨hx, hb, hml, hown, hts⟩ (cMheadAt (l_mDs hP) h) (gc_XL_84 hts hN ⟨Nat.le_of_ble_eq_true rfl, Nat.le_of_ble_eq_true rfl⟩) (l_preM hP hK hN) rfl rfl hl.1 rfl (lv_room (Nat.le_of_ble_eq_true rfl)) dXL_law_644 ⟨show cells + 0 ≤ 600000 by omega, show slots + 0 ≤ 7302250 by omega⟩) hS (fun q _ h2 => l_A2 hP h2) (fun q h2 => l_A2 hP h2) (fun r151 u t H locs ht hvm h hB hz hk hS2 => ?_)
                                    rw [fxC, ht] at hB
                                    obtain ⟨I_151, J_151, cn_151, cm_151, so_151⟩ := u
                                    dsimp only at h
                                    replace hP := l_afterM hP hB hk
                                    replace hS := hS2
                                    refine W.cs (cells' := cells) (slots' := slots) rfl rfl ?_
                                    refine W.lcmp hx hb dXL_law_647 ?_
                                    refine lv_if_eq (tgt := 699) hx hb dXL_law_648 (by decide) (fun c152 => ?_) (fun c152 => ?_)
                                    · replace h := h.1 c152
                                      refine lv_iinc (v := v3 + 5) (lv' := [(3, .int (v3 + 5)), (0, .ref b), (1, .ref post.2.2), (2, .ref h0)]) hx hb dXL_law_699 hl (k := 3) rfl rfl (by decide) rfl (fun ls hl => ?_)
                                      refine lv_goto (tgt := 18) hx hb dXL_law_702 (by decide) ?_
                                      exact hK18 w_146 mc ms I_151 J_151 cn_151 cm_151 so_151 (v3 + 5) h H locs ls hP hS (lv_sub hl [1, 2, 3, 0] rfl) _ _ hbc hbs
                                    · replace h := h.2 c152
                                      refine lv_iconst (v := 0) hx hb dXL_law_651 (by decide) ?_
                                      exact h.elim
                                  · skip
                                    by_cases k15 : ((post.1 (Int32.toNatClampNeg v3)) &&& 31) = 15
                                    · replace h := h.2.2.2.2.2.2.2.2.2.2.2.2.2.2.2.1 k15
                                      refine lv_tableIn (off := 621) (tgt := 653) hx hb dXL_law_32 (by rw [k15]; decide) (by rw [k15]; decide) (by rw [k15]; decide) (by decide) ?_
                                      refine lv_aload_n hx hb dXL_law_653 rfl (lv_at hl 1 rfl) ?_
                                      refine lv_aload_n hx hb dXL_law_654 rfl (lv_at hl 0 rfl) ?_
                                      refine lv_iload_n hx hb dXL_law_655 rfl (lv_at hl 3 rfl) ?_
                                      refine lv_iconst (v := 1) hx hb dXL_law_656 (by decide) ?_
                                      refine lv_iadd hx hb dXL_law_657 ?_
                                      obtain ⟨h153, h⟩ := h
                                      refine va_sld hx hb hX hbl hbA hS h153 dXL_law_658 ?_
                                      refine lv_aload_n hx hb dXL_law_659 rfl (lv_at hl 0 rfl) ?_
                                      refine lv_iload_n hx hb dXL_law_660 rfl (lv_at hl 3 rfl) ?_
                                      refine lv_iconst (v := 2) hx hb dXL_law_661 (by decide) ?_
                                      refine lv_iadd hx hb dXL_law_662 ?_
                                      obtain ⟨h154, h⟩ := h
                                      refine va_sld hx hb hX hbl hbA hS h154 dXL_law_663 ?_
                                      obtain ⟨fs156, g157, h⟩ := h
                                      refine va_calli (va_runV (As := [.int (post.1 (Int32.toNatClampNeg (v3 + 1))), .int (post.1 (Int32.toNatClampNeg (v3 + 2)))]) (rest := []) ⟨hx, hb, hml, hown, hts⟩ (cKXW_value (A := lA1 w H) h) (gc_XL_85 hts hN ⟨Nat.le_of_ble_eq_true rfl, Nat.le_of_ble_eq_true rfl⟩) (l_preV g157 rfl hP hS hK hN hE) rfl rfl hl.1 rfl (lv_room (Nat.le_of_ble_eq_true rfl)) dXL_law_664 ⟨show cells + 0 ≤ 600000 by omega, show slots + 0 ≤ 7302250 by omega⟩) hS (fun q _ h2 => l_A1 hP hS h2) (fun q h2 => l_A1 hP hS h2) (fun r155 w_155 t H locs ht hvm h hB hz hk hS2 => ?_)
                                      rw [fxC, ht] at hB
                                      replace hP := l_afterX hP hS hB hk
                                      replace hS := hS2
                                      refine W.cs (cells' := cells) (slots' := slots) rfl rfl ?_
                                      refine lv_aload_n hx hb dXL_law_667 rfl (lv_at hl 2 rfl) ?_
                                      refine lv_aload_n hx hb dXL_law_668 rfl (lv_at hl 0 rfl) ?_
                                      refine lv_iload_n hx hb dXL_law_669 rfl (lv_at hl 3 rfl) ?_
                                      refine lv_iconst (v := 1) hx hb dXL_law_670 (by decide) ?_
                                      refine lv_iadd hx hb dXL_law_671 ?_
                                      obtain ⟨h158, h⟩ := h
                                      refine va_sld hx hb hX hbl hbA hS h158 dXL_law_672 ?_
                                      refine lv_aload_n hx hb dXL_law_673 rfl (lv_at hl 0 rfl) ?_
                                      refine lv_iload_n hx hb dXL_law_674 rfl (lv_at hl 3 rfl) ?_
                                      refine lv_iconst (v := 2) hx hb dXL_law_675 (by decide) ?_
                                      refine lv_iadd hx hb dXL_law_676 ?_
                                      obtain ⟨h159, h⟩ := h
                                      refine va_sld hx hb hX hbl hbA hS h159 dXL_law_677 ?_
                                      refine va_calli (va_runV (As := [.int (post.1 (Int32.toNatClampNeg (v3 + 1))), .int (post.1 (Int32.toNatClampNeg (v3 + 2)))]) (rest := [.int r155]) ⟨hx, hb, hml, hown, hts⟩ (cMvalue (l_mDs hP) h) (gc_XL_88 hts hN ⟨Nat.le_of_ble_eq_true rfl, Nat.le_of_ble_eq_true rfl⟩) (l_preM hP hK hN) rfl rfl hl.1 rfl (lv_room (Nat.le_of_ble_eq_true rfl)) dXL_law_678 ⟨show cells + 0 ≤ 600000 by omega, show slots + 0 ≤ 7302250 by omega⟩) hS (fun q _ h2 => l_A2 hP h2) (fun q h2 => l_A2 hP h2) (fun r160 u t H locs ht hvm h hB hz hk hS2 => ?_)
                                      rw [fxC, ht] at hB
                                      obtain ⟨I_160, J_160, cn_160, cm_160, so_160⟩ := u
                                      dsimp only at h
                                      replace hP := l_afterM hP hB hk
                                      replace hS := hS2
                                      refine W.cs (cells' := cells) (slots' := slots) rfl rfl ?_
                                      refine lv_icmp_eq (tgt := 699) hx hb dXL_law_681 (by decide) (fun c161 => ?_) (fun c161 => ?_)
                                      · replace h := h.1 c161
                                        refine lv_iinc (v := v3 + 5) (lv' := [(3, .int (v3 + 5)), (0, .ref b), (1, .ref post.2.2), (2, .ref h0)]) hx hb dXL_law_699 hl (k := 3) rfl rfl (by decide) rfl (fun ls hl => ?_)
                                        refine lv_goto (tgt := 18) hx hb dXL_law_702 (by decide) ?_
                                        exact hK18 w_155 mc ms I_160 J_160 cn_160 cm_160 so_160 (v3 + 5) h H locs ls hP hS (lv_sub hl [1, 2, 3, 0] rfl) _ _ hbc hbs
                                      · replace h := h.2 c161
                                        refine lv_iconst (v := 0) hx hb dXL_law_684 (by decide) ?_
                                        exact h.elim
                                    · skip
                                      by_cases k16 : ((post.1 (Int32.toNatClampNeg v3)) &&& 31) = 16
                                      · replace h := h.2.2.2.2.2.2.2.2.2.2.2.2.2.2.2.2.1 k16
                                        refine lv_tableIn (off := 654) (tgt := 686) hx hb dXL_law_32 (by rw [k16]; decide) (by rw [k16]; decide) (by rw [k16]; decide) (by decide) ?_
                                        refine lv_aload_n hx hb dXL_law_686 rfl (lv_at hl 1 rfl) ?_
                                        obtain ⟨fs163, g164, h⟩ := h
                                        refine va_calli (va_runV (As := []) (rest := []) ⟨hx, hb, hml, hown, hts⟩ (cKXW_all (A := lA1 w H) h) (gc_XL_89 hts hN ⟨Nat.le_of_ble_eq_true rfl, Nat.le_of_ble_eq_true rfl⟩) (l_preV g164 rfl hP hS hK hN hE) rfl rfl hl.1 rfl (lv_room (Nat.le_of_ble_eq_true rfl)) dXL_law_687 ⟨show cells + 0 ≤ 600000 by omega, show slots + 0 ≤ 7302250 by omega⟩) hS (fun q _ h2 => l_A1 hP hS h2) (fun q h2 => l_A1 hP hS h2) (fun r162 w_162 t H locs ht hvm h hB hz hk hS2 => ?_)
                                        rw [fxC, ht] at hB
                                        replace hP := l_afterX hP hS hB hk
                                        replace hS := hS2
                                        refine W.cs (cells' := cells) (slots' := slots) rfl rfl ?_
                                        refine lv_aload_n hx hb dXL_law_690 rfl (lv_at hl 2 rfl) ?_
                                        refine va_calli (va_runV (As := []) (rest := [.int r162]) ⟨hx, hb, hml, hown, hts⟩ (cMall (l_mDs hP) h) (gc_XL_93 hts hN ⟨Nat.le_of_ble_eq_true rfl, Nat.le_of_ble_eq_true rfl⟩) (l_preM hP hK hN) rfl rfl hl.1 rfl (lv_room (Nat.le_of_ble_eq_true rfl)) dXL_law_691 ⟨show cells + 0 ≤ 600000 by omega, show slots + 0 ≤ 7302250 by omega⟩) hS (fun q _ h2 => l_A2 hP h2) (fun q h2 => l_A2 hP h2) (fun r165 u t H locs ht hvm h hB hz hk hS2 => ?_)
                                        rw [fxC, ht] at hB
                                        obtain ⟨I_165, J_165, cn_165, cm_165, so_165⟩ := u
                                        dsimp only at h
                                        replace hP := l_afterM hP hB hk
                                        replace hS := hS2
                                        refine W.cs (cells' := cells) (slots' := slots) rfl rfl ?_
                                        refine lv_icmp_eq (tgt := 699) hx hb dXL_law_694 (by decide) (fun c166 => ?_) (fun c166 => ?_)
                                        · replace h := h.1 c166
                                          refine lv_iinc (v := v3 + 5) (lv' := [(3, .int (v3 + 5)), (0, .ref b), (1, .ref post.2.2), (2, .ref h0)]) hx hb dXL_law_699 hl (k := 3) rfl rfl (by decide) rfl (fun ls hl => ?_)
                                          refine lv_goto (tgt := 18) hx hb dXL_law_702 (by decide) ?_
                                          exact hK18 w_162 mc ms I_165 J_165 cn_165 cm_165 so_165 (v3 + 5) h H locs ls hP hS (lv_sub hl [1, 2, 3, 0] rfl) _ _ hbc hbs
                                        · replace h := h.2 c166
                                          refine lv_iconst (v := 0) hx hb dXL_law_697 (by decide) ?_
                                          exact h.elim
                                      · skip
                                        replace h := h.2.2.2.2.2.2.2.2.2.2.2.2.2.2.2.2.2 ⟨k0, k1, k2, k3, k4, k5, k6, k7, k8, k9, k10, k11, k12, k13, k14, k15, k16⟩
                                        refine lv_tableOut (tgt := 699) hx hb dXL_law_32 (l_out0_16 k0 k1 k2 k3 k4 k5 k6 k7 k8 k9 k10 k11 k12 k13 k14 k15 k16) (by decide) ?_
                                        refine lv_iinc (v := v3 + 5) (lv' := [(3, .int (v3 + 5)), (0, .ref b), (1, .ref post.2.2), (2, .ref h0)]) hx hb dXL_law_699 hl (k := 3) rfl rfl (by decide) rfl (fun ls hl => ?_)
                                        refine lv_goto (tgt := 18) hx hb dXL_law_702 (by decide) ?_
                                        exact hK18 w mc ms I J cn cm so (v3 + 5) h H locs ls hP hS (lv_sub hl [1, 2, 3, 0] rfl) _ _ hbc hbs
