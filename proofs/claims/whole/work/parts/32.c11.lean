section GWAP
variable {K : gw_K} {cc : ByteArray} {own : String} {Ts : List Cond} {tys : List (ClassId × FieldType)} {zz : (Nat → Prop) → State → Heap → Prop} {ws : va_W} {cells slots pc : Nat} {lv lv' : List (Nat × Value)} {st : List Value}
theorem gw_rngL (a b : va_W) : (List.range a.length).map (fun i => (a ++ b)[i]?) = a.map some := by
  apply List.ext_getElem
  · simp
  · intro i h1 h2
    simp at h1
    simp [h1, List.getElem?_append_left]
theorem gw_rngR (a b : va_W) : ((List.range b.length).map (fun i => a.length + i)).map (fun i => (a ++ b)[i]?) = b.map some := by
  apply List.ext_getElem
  · simp
  · intro i h1 h2
    simp at h1
    simp [h1]
theorem gw_ndR (a n : Nat) : va_nd ((List.range n).map (fun i => a + i)) = true := by
  apply gw_nd1
  rw [List.Nodup, List.pairwise_map]
  exact List.Pairwise.imp (fun h q => h (by omega)) List.nodup_range
theorem gw_swap {a b : va_W} (k : gw_G K (b ++ a) cells slots pc lv st) : gw_G K (a ++ b) cells slots pc lv st := gw_permL (l := []) (by rw [List.append_nil]; exact List.perm_append_comm) k

theorem gw_appVI (C : gw_x K cc own Ts tys zz) {S : Type} {y : MethodName} {wy wy' : List Cond} {bytes : ByteArray} {maxL fr lc mc ms n index b : Nat} {w0 wr : va_W} {As rest : List Value} {post : Int32 → S → Prop} {B : S → va_W} {rt : FieldType} (h : gw_CI (kl K) y wy fr lc mc ms (kD K) tys zz w0 (.ref b :: As) post B) {Cn : String} {ci : Nat} {fs : List Value} {r0 : vw_C} (q0 : Nat) (he : w0[q0]? = some (b, .inr (ci, fs))) (hc : vwCl[ci]? = some r0) (hrn : r0.1 = Cn) (hG : GoodIn Ts (wsV own index Cn y wy)) (hw : wy = Cond.code y bytes maxL (some rt) :: wy') (hd4 : y.cls = Cn ∧ y.cls ≠ "java/lang/invoke/MethodHandle" ∧ y.cls ≠ "java/lang/invoke/VarHandle" ∧ (parseMethodDescriptor y.desc).map (fun d => d.parameters.length) = some n) (hd : decode cc pc = .ok (.invokevirtual index, 3)) (hR : fr + 1 ≤ (kR K).frames ∧ 8 + (maxL + 11) + lc ≤ (kR K).locals) (hcs : cells + mc ≤ (kR K).cells ∧ slots + ms ≤ (kR K).slots) (hn : As.length = n) (hroom : (rest.map fun v => v.category).sum ≤ 8) (hst : st = As.reverse ++ .ref b :: rest) (k : ∀ (r : Int32) (u : S), post r u → gw_G K (B u ++ wr) (cells + mc) (slots + ms) (pc + 3) lv (.int r :: rest)) : gw_G K (w0 ++ wr) cells slots pc lv st := gw_callVI (wr := wr) C h q0 he hc hrn hG hw hd4 hd hR hcs (List.range w0.length) ((List.range wr.length).map (fun i => w0.length + i)) (gw_rngL w0 wr) (gw_rngR w0 wr) (gw_ndr _) (gw_ndR _ _) (fun i hi hj => by simp at hi hj; omega) hn hroom hst (fun r u hp => gw_swap (k r u hp))
theorem gw_appVV (C : gw_x K cc own Ts tys zz) {S : Type} {y : MethodName} {wy wy' : List Cond} {bytes : ByteArray} {maxL fr lc mc ms n index b : Nat} {w0 wr : va_W} {As rest : List Value} {post : S → Prop} {B : S → va_W} (h : gw_CV (kl K) y wy fr lc mc ms (kD K) tys zz w0 (.ref b :: As) post B) {Cn : String} {ci : Nat} {fs : List Value} {r0 : vw_C} (q0 : Nat) (he : w0[q0]? = some (b, .inr (ci, fs))) (hc : vwCl[ci]? = some r0) (hrn : r0.1 = Cn) (hG : GoodIn Ts (wsV own index Cn y wy)) (hw : wy = Cond.code y bytes maxL (none) :: wy') (hd4 : y.cls = Cn ∧ y.cls ≠ "java/lang/invoke/MethodHandle" ∧ y.cls ≠ "java/lang/invoke/VarHandle" ∧ (parseMethodDescriptor y.desc).map (fun d => d.parameters.length) = some n) (hd : decode cc pc = .ok (.invokevirtual index, 3)) (hR : fr + 1 ≤ (kR K).frames ∧ 8 + (maxL + 11) + lc ≤ (kR K).locals) (hcs : cells + mc ≤ (kR K).cells ∧ slots + ms ≤ (kR K).slots) (hn : As.length = n) (hroom : (rest.map fun v => v.category).sum ≤ 8) (hst : st = As.reverse ++ .ref b :: rest) (k : ∀ (u : S), post u → gw_G K (B u ++ wr) (cells + mc) (slots + ms) (pc + 3) lv rest) : gw_G K (w0 ++ wr) cells slots pc lv st := gw_callVV (wr := wr) C h q0 he hc hrn hG hw hd4 hd hR hcs (List.range w0.length) ((List.range wr.length).map (fun i => w0.length + i)) (gw_rngL w0 wr) (gw_rngR w0 wr) (gw_ndr _) (gw_ndR _ _) (fun i hi hj => by simp at hi hj; omega) hn hroom hst (fun u hp => gw_swap (k u hp))
theorem gw_appSI (C : gw_x K cc own Ts tys zz) {S : Type} {y : MethodName} {wy wy' : List Cond} {bytes : ByteArray} {maxL fr lc mc ms n index b : Nat} {w0 wr : va_W} {As rest : List Value} {post : Int32 → S → Prop} {B : S → va_W} {rt : FieldType} (h : gw_CI (kl K) y wy fr lc mc ms (kD K) tys zz w0 As post B) (hG : GoodIn Ts (va_wsS own index y wy)) (hw : wy = Cond.code y bytes maxL (some rt) :: wy') (hd4 : y.cls ≠ "java/lang/invoke/MethodHandle" ∧ y.cls ≠ "java/lang/invoke/VarHandle" ∧ (parseMethodDescriptor y.desc).map (fun d => d.parameters.length) = some n) (hd : decode cc pc = .ok (.invokestatic index, 3)) (hR : fr + 1 ≤ (kR K).frames ∧ 8 + (maxL + 11) + lc ≤ (kR K).locals) (hcs : cells + mc ≤ (kR K).cells ∧ slots + ms ≤ (kR K).slots) (hn : As.length = n) (hroom : (rest.map fun v => v.category).sum ≤ 8) (hst : st = As.reverse ++ rest) (k : ∀ (r : Int32) (u : S), post r u → gw_G K (B u ++ wr) (cells + mc) (slots + ms) (pc + 3) lv (.int r :: rest)) : gw_G K (w0 ++ wr) cells slots pc lv st := gw_callSI (b := b) (wr := wr) C h hG hw hd4 hd hR hcs (List.range w0.length) ((List.range wr.length).map (fun i => w0.length + i)) (gw_rngL w0 wr) (gw_rngR w0 wr) (gw_ndr _) (gw_ndR _ _) (fun i hi hj => by simp at hi hj; omega) hn hroom hst (fun r u hp => gw_swap (k r u hp))
theorem gw_appSV (C : gw_x K cc own Ts tys zz) {S : Type} {y : MethodName} {wy wy' : List Cond} {bytes : ByteArray} {maxL fr lc mc ms n index b : Nat} {w0 wr : va_W} {As rest : List Value} {post : S → Prop} {B : S → va_W} (h : gw_CV (kl K) y wy fr lc mc ms (kD K) tys zz w0 As post B) (hG : GoodIn Ts (va_wsS own index y wy)) (hw : wy = Cond.code y bytes maxL (none) :: wy') (hd4 : y.cls ≠ "java/lang/invoke/MethodHandle" ∧ y.cls ≠ "java/lang/invoke/VarHandle" ∧ (parseMethodDescriptor y.desc).map (fun d => d.parameters.length) = some n) (hd : decode cc pc = .ok (.invokestatic index, 3)) (hR : fr + 1 ≤ (kR K).frames ∧ 8 + (maxL + 11) + lc ≤ (kR K).locals) (hcs : cells + mc ≤ (kR K).cells ∧ slots + ms ≤ (kR K).slots) (hn : As.length = n) (hroom : (rest.map fun v => v.category).sum ≤ 8) (hst : st = As.reverse ++ rest) (k : ∀ (u : S), post u → gw_G K (B u ++ wr) (cells + mc) (slots + ms) (pc + 3) lv rest) : gw_G K (w0 ++ wr) cells slots pc lv st := gw_callSV (b := b) (wr := wr) C h hG hw hd4 hd hR hcs (List.range w0.length) ((List.range wr.length).map (fun i => w0.length + i)) (gw_rngL w0 wr) (gw_rngR w0 wr) (gw_ndr _) (gw_ndR _ _) (fun i hi hj => by simp at hi hj; omega) hn hroom hst (fun u hp => gw_swap (k u hp))
theorem gw_appVR2 (C : gw_x K cc own Ts tys zz) {S : Type} {y : MethodName} {wy wy' : List Cond} {bytes : ByteArray} {maxL fr lc mc ms n index b : Nat} {w0 wr : va_W} {As rest : List Value} {post : S → Nat → Prop} {B : S → Nat → va_W} {rt : FieldType} (h : gw_CR2 (kl K) y wy fr lc mc ms (kD K) tys zz w0 (.ref b :: As) post B) {Cn : String} {ci : Nat} {fs : List Value} {r0 : vw_C} (q0 : Nat) (he : w0[q0]? = some (b, .inr (ci, fs))) (hc : vwCl[ci]? = some r0) (hrn : r0.1 = Cn) (hG : GoodIn Ts (wsV own index Cn y wy)) (hw : wy = Cond.code y bytes maxL (some rt) :: wy') (hd4 : y.cls = Cn ∧ y.cls ≠ "java/lang/invoke/MethodHandle" ∧ y.cls ≠ "java/lang/invoke/VarHandle" ∧ (parseMethodDescriptor y.desc).map (fun d => d.parameters.length) = some n) (hd : decode cc pc = .ok (.invokevirtual index, 3)) (hR : fr + 1 ≤ (kR K).frames ∧ 8 + (maxL + 11) + lc ≤ (kR K).locals) (hcs : cells + mc ≤ (kR K).cells ∧ slots + ms ≤ (kR K).slots) (hn : As.length = n) (hroom : (rest.map fun v => v.category).sum ≤ 8) (hst : st = As.reverse ++ .ref b :: rest) (k : ∀ (u : S) (r : Nat), post u r → gw_G K (B u r ++ wr) (cells + mc) (slots + ms) (pc + 3) lv (.ref r :: rest)) : gw_G K (w0 ++ wr) cells slots pc lv st := gw_callVR2 (wr := wr) C h q0 he hc hrn hG hw hd4 hd hR hcs (List.range w0.length) ((List.range wr.length).map (fun i => w0.length + i)) (gw_rngL w0 wr) (gw_rngR w0 wr) (gw_ndr _) (gw_ndR _ _) (fun i hi hj => by simp at hi hj; omega) hn hroom hst (fun u r hp => gw_swap (k u r hp))
theorem gw_appIV (C : gw_x K cc own Ts tys zz) {S : Type} {y : MethodName} {wy wy' : List Cond} {bytes : ByteArray} {maxL fr lc mc ms n index b : Nat} {w0 wr : va_W} {As rest : List Value} {post : S → Prop} {B : S → va_W} (h : gw_CV (kl K) y wy fr lc mc ms (kD K) tys zz w0 (.ref b :: As) post B) (hG : GoodIn Ts wy) (hw : wy = Cond.code y bytes maxL (none) :: wy') (hini : Cond.initialized y.cls ∈ Ts) (hlk : Cond.methodLink own index y ∈ Ts) (him : Cond.instanceMethod y ∈ Ts) (hyn : y.name = "<init>") (hd4 : y.cls ≠ "java/lang/invoke/MethodHandle" ∧ y.cls ≠ "java/lang/invoke/VarHandle" ∧ (parseMethodDescriptor y.desc).map (fun d => d.parameters.length) = some n) (hd : decode cc pc = .ok (.invokespecial index, 3)) (hR : fr + 1 ≤ (kR K).frames ∧ 8 + (maxL + 11) + lc ≤ (kR K).locals) (hcs : cells + mc ≤ (kR K).cells ∧ slots + ms ≤ (kR K).slots) (hn : As.length = n) (hroom : (rest.map fun v => v.category).sum ≤ 8) (hst : st = As.reverse ++ .ref b :: rest) (k : ∀ (u : S), post u → gw_G K (B u ++ wr) (cells + mc) (slots + ms) (pc + 3) lv rest) : gw_G K (w0 ++ wr) cells slots pc lv st := gw_callIV (wr := wr) C h hG hw hini hlk him hyn hd4 hd hR hcs (List.range w0.length) ((List.range wr.length).map (fun i => w0.length + i)) (gw_rngL w0 wr) (gw_rngR w0 wr) (gw_ndr _) (gw_ndR _ _) (fun i hi hj => by simp at hi hj; omega) hn hroom hst (fun u hp => gw_swap (k u hp))
end GWAP
theorem in_X9_copyDown_X9 : ∀ w ∈ wsX90, w ∈ wsX9_copyDown := fun _ h => List.mem_cons_of_mem _ (List.mem_append_right _ (h))
theorem in_X9_firstTurnOf_X9 : ∀ w ∈ wsX90, w ∈ wsX9_firstTurnOf := fun _ h => List.mem_cons_of_mem _ (List.mem_append_right _ (h))
theorem in_X9_store_X9 : ∀ w ∈ wsX90, w ∈ wsX9_store := fun _ h => List.mem_cons_of_mem _ (List.mem_append_right _ (h))
theorem in_X9_stored_X9 : ∀ w ∈ wsX90, w ∈ wsX9_stored := fun _ h => List.mem_cons_of_mem _ (List.mem_append_right _ (h))
theorem in_X9_turnsOf_X9 : ∀ w ∈ wsX90, w ∈ wsX9_turnsOf := fun _ h => List.mem_cons_of_mem _ (List.mem_append_right _ (h))
theorem in_X9_turnsToGoal_X9 : ∀ w ∈ wsX90, w ∈ wsX9_turnsToGoal := fun _ h => List.mem_cons_of_mem _ (List.mem_append_right _ (h))
theorem lk_X9_copyDown_21 : Cond.fieldLink RX9 21 "StageCube$Stage" "features" "[LStageCube$Feature;" ∈ wsX9_copyDown := by decide +kernel
theorem lk_X9_copyDown_25 : Cond.fieldLink RX9 25 "StageCube$Stage" "numbers" "[I" ∈ wsX9_copyDown := by decide +kernel
theorem lk_X9_firstTurnOf_9 : Cond.fieldLink RX9 9 "StageCube$Stage" "facesWithQuarters" "I" ∈ wsX9_firstTurnOf := by decide +kernel
theorem lk_X9_store_36 : Cond.fieldLink RX9 36 "StageCube$Stage" "near" "[J" ∈ wsX9_store := by decide +kernel
theorem lk_X9_stored_36 : Cond.fieldLink RX9 36 "StageCube$Stage" "near" "[J" ∈ wsX9_stored := by decide +kernel
theorem lk_X9_turnsOf_9 : Cond.fieldLink RX9 9 "StageCube$Stage" "facesWithQuarters" "I" ∈ wsX9_turnsOf := by decide +kernel
theorem lk_X9_turnsToGoal_15 : Cond.fieldLink RX9 15 "StageCube$Stage" "reach" "I" ∈ wsX9_turnsToGoal := by decide +kernel
set_option maxHeartbeats 4000000 in
set_option maxRecDepth 100000 in
theorem c_copyDown (l : Launch) (D : va_G) (cI cB cS cJ cF cG : ClassId) (tt : Nat → Nat) (sa : Nat → Nat) (nf fwq rch ql : Nat) (Wy Nm : Nat → Nat) (nv : Value) (fw : va_W) (d : Nat) (hd : d ≤ 14) (hnf : nf ≤ 4) : gw_CV (S := Unit) l yX9_copyDown wsX9_copyDown 1 27 0 0 D (mo_ty cI cB cS cJ cF cG) (zs tt) (sg_ws cI cF sa nf fwq rch ql (nv) (Wy) (Nm) (fw)) [.ref (sa 0), iN d] (fun _ => True) (fun _ => sg_ws cI cF sa nf fwq rch ql (nv) (Wy) (cpy1 Nm (d * nf) (d * nf + nf) nf) (fw)) := by
  refine gw_CV.of (cc := cX9_copyDown) (maxL := 3) (zs_ok tt) (by decide) rfl (Nat.le_of_ble_eq_true rfl) ?_
  intro K C hkl hkn hkR hkD hmn ret
  have C : gw_x K cX9_copyDown RX9 wsX9_copyDown (mo_ty cI cB cS cJ cF cG) (zs tt) := C
  subst hkl hkD
  have hrc : (kR K).cells = 0 := by rw [hkR]
  have hrs : (kR K).slots = 0 := by rw [hkR]
  have hm : d * nf ≤ 14 * nf := Nat.mul_le_mul_right nf hd
  refine gw_iload_n C 1 dX9_copyDown_0 rfl rfl ?_
  refine gw_aload_n C 0 dX9_copyDown_1 rfl rfl ?_
  refine gw_get C 0 4 in_X9_copyDown_X9 dX9_copyDown_2 lk_X9_copyDown_21 rfl rfl (by decide) rfl rfl ?_
  refine gw_alen C 2 4 (nf) dX9_copyDown_5 rfl rfl rfl ?_
  refine gw_imul C dX9_copyDown_6 ?_
  refine gw_istore_n C (lv2 := [(2, iN ((d) * (nf))), (0, .ref (sa 0)), (1, iN (d))]) dX9_copyDown_7 rfl (by omega) rfl ?_
  refine gw_aload_n C 1 dX9_copyDown_8 rfl rfl ?_
  refine gw_get C 0 5 in_X9_copyDown_X9 dX9_copyDown_9 lk_X9_copyDown_25 rfl rfl (by decide) rfl rfl ?_
  refine gw_iload_n C 0 dX9_copyDown_12 rfl rfl ?_
  refine gw_aload_n C 1 dX9_copyDown_13 rfl rfl ?_
  refine gw_get C 0 5 in_X9_copyDown_X9 dX9_copyDown_14 lk_X9_copyDown_25 rfl rfl (by decide) rfl rfl ?_
  refine gw_iload_n C 0 dX9_copyDown_17 rfl rfl ?_
  refine gw_aload_n C 1 dX9_copyDown_18 rfl rfl ?_
  refine gw_get C 0 4 in_X9_copyDown_X9 dX9_copyDown_19 lk_X9_copyDown_21 rfl rfl (by decide) rfl rfl ?_
  refine gw_alen C 2 4 (nf) dX9_copyDown_22 rfl rfl rfl ?_
  refine gw_iadd C dX9_copyDown_23 ?_
  refine gw_aload_n C 1 dX9_copyDown_24 rfl rfl ?_
  refine gw_get C 0 4 in_X9_copyDown_X9 dX9_copyDown_25 lk_X9_copyDown_21 rfl rfl (by decide) rfl rfl ?_
  refine gw_alen C 2 4 (nf) dX9_copyDown_28 rfl rfl rfl ?_
  refine gw_copy C (ws2 := [(sa 0, .inr (7, [.ref (sa 1), iN (fwq), iN (rch), iN (ql), .ref (sa 2), .ref (sa 3), nv])), (sa 1, .inl (cI, 15, .inl (fun j => nI (Wy j)))), (sa 2, .inl (cF, nf, .inr (.inr (.inr (.inr (fq_ sa nf)))))), (sa 3, .inl (cI, 16 * nf, .inl (fun j => nI ((cpy1 Nm (d * nf) (d * nf + nf) nf) j))))] ++ fw) 3 0 dX9_copyDown_29 (by decide +kernel) (by decide +kernel) (by decide +kernel) (by decide +kernel) rfl rfl (by omega) (by omega) (by omega) (by rw [hkR]; decide) (by rw [hkR]; decide +kernel) rfl ?_
  exact ret () dX9_copyDown_32 trivial rfl (Nat.le_refl 0) (Nat.le_refl 0)
set_option maxHeartbeats 4000000 in
set_option maxRecDepth 100000 in
theorem c_stored (l : Launch) (D : va_G) (cI cB cS cJ cF cG : ClassId) (tt : Nat → Nat) (sa : Nat → Nat) (nf fwq rch ql : Nat) (Wy Nm : Nat → Nat) (NL : Nat) (g : Nat → Nat) (fw : va_W) (hg : ∀ s, g s < 16) (s : Nat) (hNL : NL ≤ 100000) (hs : s / 2 ^ 4 < NL) : gw_CI (S := Unit) l yX9_stored wsX9_stored 0 0 0 0 D (mo_ty cI cB cS cJ cF cG) (zs tt) (sg_ws cI cF sa nf fwq rch ql (.ref (sa 4)) (Wy) (Nm) ((sa 4, .inl (cJ, NL, .inr (.inl (fun j => lN (wd (g) j))))) :: fw)) [.ref (sa 0), iN s] (fun r _ => r = nI (g s)) (fun _ => sg_ws cI cF sa nf fwq rch ql (.ref (sa 4)) (Wy) (Nm) ((sa 4, .inl (cJ, NL, .inr (.inl (fun j => lN (wd (g) j))))) :: fw)) := by
  refine gw_CI.of (cc := cX9_stored) (maxL := 2) (rt := .int) (zs_ok tt) (by decide) rfl (Nat.le_of_ble_eq_true rfl) ?_
  intro K C hkl hkn hkR hkD hmn ret
  have C : gw_x K cX9_stored RX9 wsX9_stored (mo_ty cI cB cS cJ cF cG) (zs tt) := C
  subst hkl hkD
  have hrc : (kR K).cells = 0 := by rw [hkR]
  have hrs : (kR K).slots = 0 := by rw [hkR]
  have q1 : s &&& 15 ≤ 15 := Nat.and_le_right
  refine gw_aload_n C 0 dX9_stored_0 rfl rfl ?_
  refine gw_get C 0 6 in_X9_stored_X9 dX9_stored_1 lk_X9_stored_36 rfl rfl (by decide) rfl rfl ?_
  refine gw_iload_n C 1 dX9_stored_4 rfl rfl ?_
  refine gw_iconst C 4 dX9_stored_5 (by decide) ?_
  refine gw_ishr C dX9_stored_6 (by omega) (by omega) ?_
  refine gw_lald C 4 3 dX9_stored_7 rfl rfl (by first | decide | omega) (by omega) ?_
  refine gw_iconst C 4 dX9_stored_8 (by decide) ?_
  refine gw_iload_n C 1 dX9_stored_9 rfl rfl ?_
  refine gw_bipush C 15 dX9_stored_10 (by decide) ?_
  refine gw_iand C dX9_stored_12 ?_
  refine gw_imul C dX9_stored_13 ?_
  refine gw_lushr C dX9_stored_14 (by omega) (by exact wd_lt hg _)  ?_
  refine gw_l2i C dX9_stored_15 ?_
  refine gw_bipush C 15 dX9_stored_16 (by decide) ?_
  refine gw_iand C dX9_stored_18 ?_
  exact ret () dX9_stored_19 rfl (by rw [wd_get hg s]) rfl (Nat.le_refl 0) (Nat.le_refl 0)
theorem updL_wd {g : Nat → Nat} (h : ∀ s, g s < 16) (s v : Nat) (hv : v < 16) (h0 : g s = 0) : vp_updL (fun j => lN (wd g j)) (s / 2 ^ 4) (lN (wd g (s / 2 ^ 4) ||| v * 2 ^ (4 * (s &&& 15)))) = fun j => lN (wd (up1 g s v) j) := by
  funext j
  simp only [vp_updL]
  split
  · next e => rw [wd_set h s v hv h0, e]
  · next e => rw [wd_other s v j e]
set_option maxHeartbeats 4000000 in
set_option maxRecDepth 100000 in
theorem c_store (l : Launch) (D : va_G) (cI cB cS cJ cF cG : ClassId) (tt : Nat → Nat) (sa : Nat → Nat) (nf fwq rch ql : Nat) (Wy Nm : Nat → Nat) (NL : Nat) (g : Nat → Nat) (fw : va_W) (hg : ∀ s, g s < 16) (s : Nat) (hNL : NL ≤ 100000) (hs : s / 2 ^ 4 < NL) (t : Nat) (ht : t < 15) (h0 : g s = 0) : gw_CV (S := Unit) l yX9_store wsX9_store 0 0 0 0 D (mo_ty cI cB cS cJ cF cG) (zs tt) (sg_ws cI cF sa nf fwq rch ql (.ref (sa 4)) (Wy) (Nm) ((sa 4, .inl (cJ, NL, .inr (.inl (fun j => lN (wd (g) j))))) :: fw)) [.ref (sa 0), iN s, iN t] (fun _ => True) (fun _ => sg_ws cI cF sa nf fwq rch ql (.ref (sa 4)) (Wy) (Nm) ((sa 4, .inl (cJ, NL, .inr (.inl (fun j => lN (wd (up1 g s (t + 1)) j))))) :: fw)) := by
  refine gw_CV.of (cc := cX9_store) (maxL := 3) (zs_ok tt) (by decide) rfl (Nat.le_of_ble_eq_true rfl) ?_
  intro K C hkl hkn hkR hkD hmn ret
  have C : gw_x K cX9_store RX9 wsX9_store (mo_ty cI cB cS cJ cF cG) (zs tt) := C
  subst hkl hkD
  have hrc : (kR K).cells = 0 := by rw [hkR]
  have hrs : (kR K).slots = 0 := by rw [hkR]
  have q1 : s &&& 15 ≤ 15 := Nat.and_le_right
  have q2 : (t + 1) * 2 ^ (4 * (s &&& 15)) < 2 ^ 64 := Nat.lt_of_lt_of_le (Nat.mul_lt_mul_of_pos_right (show t + 1 < 2 ^ 4 by omega) (Nat.two_pow_pos _)) (by rw [← Nat.pow_add]; exact Nat.pow_le_pow_right (by decide) (by omega))
  refine gw_aload_n C 0 dX9_store_0 rfl rfl ?_
  refine gw_get C 0 6 in_X9_store_X9 dX9_store_1 lk_X9_store_36 rfl rfl (by decide) rfl rfl ?_
  refine gw_iload_n C 1 dX9_store_4 rfl rfl ?_
  refine gw_iconst C 4 dX9_store_5 (by decide) ?_
  refine gw_ishr C dX9_store_6 (by omega) (by omega) ?_
  refine gw_dup2 C dX9_store_7 rfl rfl ?_
  refine gw_lald C 4 3 dX9_store_8 rfl rfl (by first | decide | omega) (by omega) ?_
  refine gw_iload_n C 2 dX9_store_9 rfl rfl ?_
  refine gw_i2l C dX9_store_10 (by omega) ?_
  refine gw_lconst1 C dX9_store_11 ?_
  refine gw_ladd C dX9_store_12 ?_
  refine gw_iconst C 4 dX9_store_13 (by decide) ?_
  refine gw_iload_n C 1 dX9_store_14 rfl rfl ?_
  refine gw_bipush C 15 dX9_store_15 (by decide) ?_
  refine gw_iand C dX9_store_17 ?_
  refine gw_imul C dX9_store_18 ?_
  refine gw_lshl C dX9_store_19 (by omega) ?_
  refine gw_lor C dX9_store_20 (by exact wd_lt hg _) (by exact q2)  ?_
  refine gw_last C (ws2 := [(sa 0, .inr (7, [.ref (sa 1), iN (fwq), iN (rch), iN (ql), .ref (sa 2), .ref (sa 3), .ref (sa 4)])), (sa 1, .inl (cI, 15, .inl (fun j => nI (Wy j)))), (sa 2, .inl (cF, nf, .inr (.inr (.inr (.inr (fq_ sa nf)))))), (sa 3, .inl (cI, 16 * nf, .inl (fun j => nI (Nm j)))), (sa 4, .inl (cJ, NL, .inr (.inl (fun j => lN ((wd (up1 g s (t + 1))) j)))))] ++ fw) 4 3 dX9_store_21 rfl rfl (by omega) (by omega) (by rw [updL_wd hg s (t + 1) (by omega) h0]; rfl) ?_
  exact ret () dX9_store_22 trivial rfl (Nat.le_refl 0) (Nat.le_refl 0)
def tg_ (rch : Nat) (g : Nat → Nat) (s : Nat) : Nat := if g s = 0 then rch + 1 else g s - 1
set_option maxHeartbeats 4000000 in
set_option maxRecDepth 100000 in
theorem c_ttg (l : Launch) (D : va_G) (cI cB cS cJ cF cG : ClassId) (tt : Nat → Nat) (sa : Nat → Nat) (nf fwq rch ql : Nat) (Wy Nm : Nat → Nat) (NL : Nat) (g : Nat → Nat) (fw : va_W) (hg : ∀ s, g s < 16) (s : Nat) (hNL : NL ≤ 100000) (hs : s / 2 ^ 4 < NL) : gw_CI (S := Unit) l yX9_turnsToGoal wsX9_turnsToGoal 1 21 0 0 D (mo_ty cI cB cS cJ cF cG) (zs tt) (sg_ws cI cF sa nf fwq rch ql (.ref (sa 4)) (Wy) (Nm) ((sa 4, .inl (cJ, NL, .inr (.inl (fun j => lN (wd (g) j))))) :: fw)) [.ref (sa 0), iN s] (fun r _ => r = nI (tg_ rch g s)) (fun _ => sg_ws cI cF sa nf fwq rch ql (.ref (sa 4)) (Wy) (Nm) ((sa 4, .inl (cJ, NL, .inr (.inl (fun j => lN (wd (g) j))))) :: fw)) := by
  refine gw_CI.of (cc := cX9_turnsToGoal) (maxL := 3) (rt := .int) (zs_ok tt) (by decide) rfl (Nat.le_of_ble_eq_true rfl) ?_
  intro K C hkl hkn hkR hkD hmn ret
  have C : gw_x K cX9_turnsToGoal RX9 wsX9_turnsToGoal (mo_ty cI cB cS cJ cF cG) (zs tt) := C
  subst hkl hkD
  have hrc : (kR K).cells = 0 := by rw [hkR]
  have hrs : (kR K).slots = 0 := by rw [hkR]
  have q1 := hg s
  refine gw_aload_n C 0 dX9_turnsToGoal_0 rfl rfl ?_
  refine gw_iload_n C 1 dX9_turnsToGoal_1 rfl rfl ?_
  refine gw_allVI (n := 1) C (c_stored (kl K) (kD K) cI cB cS cJ cF cG tt sa nf fwq rch ql Wy Nm NL g fw hg s hNL hs) 0 rfl rfl rfl gX9_turnsToGoal_X9_stored rfl (by decide +kernel) dX9_turnsToGoal_2 (by rw [hkR]; decide) (by rw [hkR]; decide) rfl (Nat.le_of_ble_eq_true rfl) rfl (fun rv v hv => ?_)
  subst hv
  refine gw_istore_n C (lv2 := [(2, iN (g s)), (0, .ref (sa 0)), (1, iN (s))]) dX9_turnsToGoal_5 rfl (by omega) rfl ?_
  refine gw_iload_n C 0 dX9_turnsToGoal_6 rfl rfl ?_
  refine gw_if_ne C 19 dX9_turnsToGoal_7 (by decide) (by omega) (fun h67 => ?_) (fun h67 => ?_)
  ·
    refine gw_iload_n C 0 dX9_turnsToGoal_19 rfl rfl ?_
    refine gw_iconst C 1 dX9_turnsToGoal_20 (by decide) ?_
    refine gw_isub C dX9_turnsToGoal_21 (by omega) ?_
    exact ret () dX9_turnsToGoal_22 rfl (by rw [tg_, if_neg (by omega)]) rfl (Nat.le_refl 0) (Nat.le_refl 0)
  ·
    refine gw_aload_n C 1 dX9_turnsToGoal_10 rfl rfl ?_
    refine gw_get C 0 2 in_X9_turnsToGoal_X9 dX9_turnsToGoal_11 lk_X9_turnsToGoal_15 rfl rfl (by decide) rfl rfl ?_
    refine gw_iconst C 1 dX9_turnsToGoal_14 (by decide) ?_
    refine gw_iadd C dX9_turnsToGoal_15 ?_
    refine gw_goto C 22 dX9_turnsToGoal_16 (by decide) ?_
    exact ret () dX9_turnsToGoal_22 rfl (by rw [tg_, if_pos (by omega)]) rfl (Nat.le_refl 0) (Nat.le_refl 0)
def to_ (fwq f : Nat) : Nat := if f < fwq then 3 else 1
def ft_ (fwq f : Nat) : Nat := if f < fwq then 3 * f else 3 * f + 1
set_option maxHeartbeats 4000000 in
set_option maxRecDepth 100000 in
theorem c_turnsOf (l : Launch) (D : va_G) (cI cB cS cJ cF cG : ClassId) (tt : Nat → Nat) (sa : Nat → Nat) (nf fwq rch ql : Nat) (Wy Nm : Nat → Nat) (nv : Value) (fw : va_W) (f : Nat) (hf : f < 6) (hq : fwq ≤ 6) : gw_CI (S := Unit) l yX9_turnsOf wsX9_turnsOf 0 0 0 0 D (mo_ty cI cB cS cJ cF cG) (zs tt) (sg_ws cI cF sa nf fwq rch ql (nv) (Wy) (Nm) (fw)) [.ref (sa 0), iN f] (fun r _ => r = nI (to_ fwq f)) (fun _ => sg_ws cI cF sa nf fwq rch ql (nv) (Wy) (Nm) (fw)) := by
  refine gw_CI.of (cc := cX9_turnsOf) (maxL := 2) (rt := .int) (zs_ok tt) (by decide) rfl (Nat.le_of_ble_eq_true rfl) ?_
  intro K C hkl hkn hkR hkD hmn ret
  have C : gw_x K cX9_turnsOf RX9 wsX9_turnsOf (mo_ty cI cB cS cJ cF cG) (zs tt) := C
  subst hkl hkD
  have hrc : (kR K).cells = 0 := by rw [hkR]
  have hrs : (kR K).slots = 0 := by rw [hkR]
  refine gw_iload_n C 1 dX9_turnsOf_0 rfl rfl ?_
  refine gw_aload_n C 0 dX9_turnsOf_1 rfl rfl ?_
  refine gw_get C 0 1 in_X9_turnsOf_X9 dX9_turnsOf_2 lk_X9_turnsOf_9 rfl rfl (by decide) rfl rfl ?_
  refine gw_icmp_ge C 12 dX9_turnsOf_5 (by decide) (by omega) (by omega) (fun h68 => ?_) (fun h68 => ?_)
  ·
    refine gw_iconst C 1 dX9_turnsOf_12 (by decide) ?_
    exact ret () dX9_turnsOf_13 rfl (by rw [to_, if_neg (by omega)]) rfl (Nat.le_refl 0) (Nat.le_refl 0)
  ·
    refine gw_iconst C 3 dX9_turnsOf_8 (by decide) ?_
    refine gw_goto C 13 dX9_turnsOf_9 (by decide) ?_
    exact ret () dX9_turnsOf_13 rfl (by rw [to_, if_pos (by omega)]) rfl (Nat.le_refl 0) (Nat.le_refl 0)
set_option maxHeartbeats 4000000 in
set_option maxRecDepth 100000 in
theorem c_firstTurnOf (l : Launch) (D : va_G) (cI cB cS cJ cF cG : ClassId) (tt : Nat → Nat) (sa : Nat → Nat) (nf fwq rch ql : Nat) (Wy Nm : Nat → Nat) (nv : Value) (fw : va_W) (f : Nat) (hf : f < 6) (hq : fwq ≤ 6) : gw_CI (S := Unit) l yX9_firstTurnOf wsX9_firstTurnOf 0 0 0 0 D (mo_ty cI cB cS cJ cF cG) (zs tt) (sg_ws cI cF sa nf fwq rch ql (nv) (Wy) (Nm) (fw)) [.ref (sa 0), iN f] (fun r _ => r = nI (ft_ fwq f)) (fun _ => sg_ws cI cF sa nf fwq rch ql (nv) (Wy) (Nm) (fw)) := by
  refine gw_CI.of (cc := cX9_firstTurnOf) (maxL := 2) (rt := .int) (zs_ok tt) (by decide) rfl (Nat.le_of_ble_eq_true rfl) ?_
  intro K C hkl hkn hkR hkD hmn ret
  have C : gw_x K cX9_firstTurnOf RX9 wsX9_firstTurnOf (mo_ty cI cB cS cJ cF cG) (zs tt) := C
  subst hkl hkD
  have hrc : (kR K).cells = 0 := by rw [hkR]
  have hrs : (kR K).slots = 0 := by rw [hkR]
  refine gw_iload_n C 1 dX9_firstTurnOf_0 rfl rfl ?_
  refine gw_aload_n C 0 dX9_firstTurnOf_1 rfl rfl ?_
  refine gw_get C 0 1 in_X9_firstTurnOf_X9 dX9_firstTurnOf_2 lk_X9_firstTurnOf_9 rfl rfl (by decide) rfl rfl ?_
  refine gw_icmp_ge C 14 dX9_firstTurnOf_5 (by decide) (by omega) (by omega) (fun h69 => ?_) (fun h69 => ?_)
  ·
    refine gw_iconst C 3 dX9_firstTurnOf_14 (by decide) ?_
    refine gw_iload_n C 1 dX9_firstTurnOf_15 rfl rfl ?_
    refine gw_imul C dX9_firstTurnOf_16 ?_
    refine gw_iconst C 1 dX9_firstTurnOf_17 (by decide) ?_
    refine gw_iadd C dX9_firstTurnOf_18 ?_
    exact ret () dX9_firstTurnOf_19 rfl (by rw [ft_, if_neg (by omega)]) rfl (Nat.le_refl 0) (Nat.le_refl 0)
  ·
    refine gw_iconst C 3 dX9_firstTurnOf_8 (by decide) ?_
    refine gw_iload_n C 1 dX9_firstTurnOf_9 rfl rfl ?_
    refine gw_imul C dX9_firstTurnOf_10 ?_
    refine gw_goto C 19 dX9_firstTurnOf_11 (by decide) ?_
    exact ret () dX9_firstTurnOf_19 rfl (by rw [ft_, if_pos (by omega)]) rfl (Nat.le_refl 0) (Nat.le_refl 0)
def nl_ (last f : Nat) : Nat := if f = last ∨ (f + 1 = last ∧ f / 2 = last / 2) then 1 else 0
set_option maxHeartbeats 4000000 in
theorem c_isNeedless (l : Launch) (D : va_G) (tys : List (ClassId × FieldType)) (tt : Nat → Nat) (w0 : va_W) (last f : Nat) (hl : last < 6 ∨ last = 4294967295) (hf : f < 6) : gw_CI l yX9_isNeedless wsX9_isNeedless 0 0 0 0 D tys (zs tt) w0 [iN last, iN f] (fun r _ => r = nI (nl_ last f)) (fun _ : Unit => w0) := by
  refine gw_CI.of (cc := cX9_isNeedless) (maxL := 2) (rt := .boolean) (zs_ok tt) (by decide) rfl (Nat.le_of_ble_eq_true rfl) ?_
  intro K C hkl hkn hkR hkD hmn ret
  have C : gw_x K cX9_isNeedless RX9 wsX9_isNeedless tys (zs tt) := C
  by_cases hz : last = 0
  · subst hz
    refine gw_iload_n C 1 dX9_isNeedless_0 rfl rfl ?_
    refine gw_iload_n C 0 dX9_isNeedless_1 rfl rfl ?_
    refine gw_icmp_eq C 21 dX9_isNeedless_2 (by decide) (by omega) (by omega) (fun h70 => ?_) (fun h70 => ?_)
    ·
      refine gw_iconst C 1 dX9_isNeedless_21 (by decide) ?_
      refine gw_goto C 26 dX9_isNeedless_22 (by decide) ?_
      exact ret () dX9_isNeedless_26 rfl (by rw [nl_, if_pos (by omega)]) rfl (Nat.le_refl 0) (Nat.le_refl 0)
    ·
      refine gw_iload_n C 1 dX9_isNeedless_5 rfl rfl ?_
      refine gw_iload_n C 0 dX9_isNeedless_6 rfl rfl ?_
      refine gw_iconst C 1 dX9_isNeedless_7 (by decide) ?_
      refine gw_isub_r C dX9_isNeedless_8 ?_
      rw [show nI 0 - nI 1 = nI 4294967295 by decide]
      refine gw_icmp_ne32 C 25 dX9_isNeedless_9 (by decide) (by omega) (by omega) (fun h71 => ?_) (fun h71 => ?_)
      ·
        refine gw_iconst C 0 dX9_isNeedless_25 (by decide) ?_
        exact ret () dX9_isNeedless_26 rfl (by rw [nl_, if_neg (by omega)]) rfl (Nat.le_refl 0) (Nat.le_refl 0)
      ·
        exact absurd h71 (by omega)
  · have hp : 1 ≤ last := by omega
    refine gw_iload_n C 1 dX9_isNeedless_0 rfl rfl ?_
    refine gw_iload_n C 0 dX9_isNeedless_1 rfl rfl ?_
    refine gw_icmp_eq32 C 21 dX9_isNeedless_2 (by decide) (by omega) (by omega) (fun h72 => ?_) (fun h72 => ?_)
    ·
      refine gw_iconst C 1 dX9_isNeedless_21 (by decide) ?_
      refine gw_goto C 26 dX9_isNeedless_22 (by decide) ?_
      exact ret () dX9_isNeedless_26 rfl (by rw [nl_, if_pos (by omega)]) rfl (Nat.le_refl 0) (Nat.le_refl 0)
    ·
      refine gw_iload_n C 1 dX9_isNeedless_5 rfl rfl ?_
      refine gw_iload_n C 0 dX9_isNeedless_6 rfl rfl ?_
      refine gw_iconst C 1 dX9_isNeedless_7 (by decide) ?_
      refine gw_isub C dX9_isNeedless_8 (by omega) ?_
      refine gw_icmp_ne32 C 25 dX9_isNeedless_9 (by decide) (by omega) (by omega) (fun h73 => ?_) (fun h73 => ?_)
      ·
        refine gw_iconst C 0 dX9_isNeedless_25 (by decide) ?_
        exact ret () dX9_isNeedless_26 rfl (by rw [nl_, if_neg (by omega)]) rfl (Nat.le_refl 0) (Nat.le_refl 0)
      ·
        have hl6 : last < 7 := by omega
        refine gw_iload_n C 1 dX9_isNeedless_12 rfl rfl ?_
        refine gw_iconst C 2 dX9_isNeedless_13 (by decide) ?_
        refine gw_idiv C dX9_isNeedless_14 (by omega) (by omega) (by omega) ?_
        refine gw_iload_n C 0 dX9_isNeedless_15 rfl rfl ?_
        refine gw_iconst C 2 dX9_isNeedless_16 (by decide) ?_
        refine gw_idiv C dX9_isNeedless_17 (by omega) (by omega) (by omega) ?_
        refine gw_icmp_ne C 25 dX9_isNeedless_18 (by decide) (by omega) (by omega) (fun h74 => ?_) (fun h74 => ?_)
        ·
          refine gw_iconst C 0 dX9_isNeedless_25 (by decide) ?_
          exact ret () dX9_isNeedless_26 rfl (by rw [nl_, if_neg (by omega)]) rfl (Nat.le_refl 0) (Nat.le_refl 0)
        ·
          refine gw_iconst C 1 dX9_isNeedless_21 (by decide) ?_
          refine gw_goto C 26 dX9_isNeedless_22 (by decide) ?_
          exact ret () dX9_isNeedless_26 rfl (by rw [nl_, if_pos (by omega)]) rfl (Nat.le_refl 0) (Nat.le_refl 0)
