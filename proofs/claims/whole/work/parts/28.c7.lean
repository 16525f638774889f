/-! ===== lN n to 2^64: shifts, and, or, masks, one bit ===== -/
theorem wb_tb (n : Nat) : (lN n).toBitVec = BitVec.ofNat 64 n := rfl
theorem wb_inj {a b : Int64} (h : a.toBitVec = b.toBitVec) : a = b := Int64.toBitVec_inj.mp h
theorem wb_tn {n : Nat} (h : n < 2 ^ 64) : (lN n).toBitVec.toNat = n := by rw [wb_tb, BitVec.toNat_ofNat, Nat.mod_eq_of_lt h]
theorem wb_of (x : Int64) : ∃ n, n < 2 ^ 64 ∧ x = lN n := ⟨x.toBitVec.toNat, x.toBitVec.isLt, wb_inj (by rw [wb_tb]; simp)⟩
theorem wb_of32 (x : Int32) : ∃ n, n < 2 ^ 32 ∧ x = nI n := ⟨x.toBitVec.toNat, x.toBitVec.isLt, Int32.toBitVec_inj.mp (by show _ = BitVec.ofNat 32 _; simp)⟩
theorem wb_c : ∀ k, k < 64 → ((nI k).toInt64 &&& 63) = lN k := by decide +kernel
theorem wb_cu : ∀ k, k < 64 → ((nI k).toInt64.toUInt64 &&& Int64.toUInt64 63) = UInt64.ofNat k := by decide +kernel
theorem wb_sm : ∀ k, k < 64 → (BitVec.ofNat 64 k).smod 64 = BitVec.ofNat 64 k := by decide +kernel
theorem wb_pw {a b : Nat} (h : a ≤ b) : 2 ^ b = 2 ^ a * 2 ^ (b - a) := by rw [← Nat.pow_add]; congr 1; omega
theorem wb_lt2 {a b : Nat} (h : a < b) : 2 ^ a < 2 ^ b := Nat.pow_lt_pow_right (by decide) h
theorem wb_mod (n : Nat) : lN n = lN (n % 2 ^ 64) := wb_inj (by rw [wb_tb, wb_tb]; apply BitVec.eq_of_toNat_eq; rw [BitVec.toNat_ofNat, BitVec.toNat_ofNat, Nat.mod_mod])
theorem wb_shr {n k : Nat} (hn : n < 2 ^ 64) (hk : k < 64) : ((lN n).toUInt64 >>> ((nI k).toInt64.toUInt64 &&& Int64.toUInt64 63)).toInt64 = lN (n / 2 ^ k) := by
  rw [wb_cu k hk]
  apply wb_inj
  apply BitVec.eq_of_toNat_eq
  show ((lN n).toUInt64 >>> UInt64.ofNat k).toNat = (BitVec.ofNat 64 _).toNat
  have h1 : (UInt64.ofNat k).toNat = k := by
    show (BitVec.ofNat 64 k).toNat = k
    rw [BitVec.toNat_ofNat, Nat.mod_eq_of_lt (by omega)]
  have h2 : (lN n).toUInt64.toNat = n := wb_tn hn
  rw [UInt64.toNat_shiftRight, h1, h2, Nat.mod_eq_of_lt hk, Nat.shiftRight_eq_div_pow, BitVec.toNat_ofNat, Nat.mod_eq_of_lt (Nat.lt_of_le_of_lt (Nat.div_le_self _ _) hn)]
theorem wb_shl (n : Nat) {k : Nat} (hk : k < 64) : lN n <<< ((nI k).toInt64 &&& 63) = lN (n * 2 ^ k) := by
  rw [wb_c k hk]
  apply wb_inj
  rw [Int64.toBitVec_shiftLeft, wb_tb, wb_tb, wb_tb, wb_sm k hk]
  apply BitVec.eq_of_toNat_eq
  rw [BitVec.shiftLeft_eq', BitVec.toNat_shiftLeft, BitVec.toNat_ofNat, BitVec.toNat_ofNat, BitVec.toNat_ofNat, Nat.mod_eq_of_lt (show k < 2 ^ 64 by omega), Nat.shiftLeft_eq, Nat.mul_mod, Nat.mod_mod, ← Nat.mul_mod]
theorem wb_and {a b : Nat} (ha : a < 2 ^ 64) (hb : b < 2 ^ 64) : lN a &&& lN b = lN (a &&& b) := by
  apply wb_inj
  rw [Int64.toBitVec_and, wb_tb, wb_tb, wb_tb]
  apply BitVec.eq_of_toNat_eq
  rw [BitVec.toNat_and, BitVec.toNat_ofNat, BitVec.toNat_ofNat, BitVec.toNat_ofNat, Nat.mod_eq_of_lt ha, Nat.mod_eq_of_lt hb, Nat.mod_eq_of_lt (Nat.and_lt_two_pow _ hb)]
theorem wb_or {a b : Nat} (ha : a < 2 ^ 64) (hb : b < 2 ^ 64) : lN a ||| lN b = lN (a ||| b) := by
  apply wb_inj
  rw [Int64.toBitVec_or, wb_tb, wb_tb, wb_tb]
  apply BitVec.eq_of_toNat_eq
  rw [BitVec.toNat_or, BitVec.toNat_ofNat, BitVec.toNat_ofNat, BitVec.toNat_ofNat, Nat.mod_eq_of_lt ha, Nat.mod_eq_of_lt hb, Nat.mod_eq_of_lt (Nat.or_lt_two_pow ha hb)]
section GWQ
variable {K : gw_K} {cc : ByteArray} {own : String} {Ts : List Cond} {tys : List (ClassId × FieldType)} {zz : (Nat → Prop) → State → Heap → Prop} {ws : va_W} {cells slots pc : Nat} {lv lv' : List (Nat × Value)} {st : List Value}
abbrev lV (n : Nat) : Value := .long (lN n)
theorem gw_new (C : gw_x K cc own Ts tys zz) {Cn : String} {T : u_T} {N ci index : Nat} {fs : List Value} (ty : Nat → FieldType) (hty : ∀ k, k < N → parseFieldDescriptor (T k).2.2.1 = some (ty k)) (hin : ∀ w ∈ u_ws Cn T N, w ∈ Ts) (hd : decode cc pc = .ok (.new index, 3)) (hcl : Cond.classLink own index Cn ∈ Ts) (hinst : Cond.instantiable Cn N ∈ Ts) (hini : Cond.initialized Cn ∈ Ts) (hc : vwCl[ci]? = some (Cn, T, N)) (hfs : ∀ j, j < N → defaultValue (ty j) = vp_V fs j) (h1 : cells + 1 ≤ (kR K).cells) (h2 : slots + N ≤ (kR K).slots) (k : ∀ q : Nat, gw_G K (ws ++ [(q, .inr (ci, fs))]) (cells + 1) (slots + N) (pc + 3) lv (.ref q :: st)) : gw_G K ws cells slots pc lv st := fun H locs ls hl hP hD hS => va_new C.1.1 C.1.2.1 C.1.2.2.2.2 hin ty hty C.1.2.2.2.1 (C.1.2.2.2.2 _ hcl) (C.1.2.2.2.2 _ hinst) (C.1.2.2.2.2 _ hini) C.2.1 hP hD hS C.2.2.1 hc hfs h1 h2 hd (fun q H1 hP1 hD1 hS1 => k q H1 locs ls hl hP1 hD1 hS1)
theorem gw_newq (C : gw_x K cc own Ts tys zz) {Cn : String} {cA : ClassId} {index : Nat} (t0 nn : Nat) (hao : va_AO Cn (ks K)) (ht : tys[t0]? = some (cA, .object Cn)) (hd : decode cc pc = .ok (.anewarray index, 3)) (hcl : Cond.classLink own index Cn ∈ Ts) (hn : nn < 2 ^ 20) (h1 : cells + 1 ≤ (kR K).cells) (h2 : slots + nn ≤ (kR K).slots) (k : ∀ q : Nat, gw_G K (ws ++ [(q, .inl (cA, nn, .inr (.inr (.inr (.inr (fun _ => none))))))]) (cells + 1) (slots + nn) (pc + 3) lv (.ref q :: st)) : gw_G K ws cells slots pc lv (iN nn :: st) := fun H locs ls hl hP hD hS => by
  refine va_newq C.1.1 C.1.2.1 C.1.2.2.2.1 (C.1.2.2.2.2 _ hcl) hao C.2.1 hP hD hS C.2.2.1 (N' := nn) (nI_pos (by omega)) (nI_clamp (by omega)) (by omega) h1 h2 hd (fun q cB H1 hK1 hP1 hD1 hS1 => ?_)
  obtain ⟨-, -, e1⟩ : True ∧ True ∧ cB = cA := by
    have a1 := (hK1.2 tys.length (cB, .object Cn) (by rw [List.getElem?_append_right (Nat.le_refl _), Nat.sub_self]; rfl)).2
    have a2 := (C.2.1.2 t0 _ ht).2
    obtain ⟨_, _, _, _, _, e⟩ := a1
    obtain ⟨_, _, _, _, _, e'⟩ := a2
    rw [e] at e'
    exact ⟨trivial, trivial, Option.some.inj e'⟩
  subst e1
  exact k q H1 locs ls hl hP1 hD1 hS1
theorem gw_ald (C : gw_x K cc own Ts tys zz) {cA : ClassId} {Cn : String} {n a i : Nat} {f : Nat → Option Nat} {v : Value} (q0 t0 : Nat) (hd : decode cc pc = .ok (.aaload, 1)) (ha : ws[q0]? = some (a, .inl (cA, n, .inr (.inr (.inr (.inr f)))))) (ht : tys[t0]? = some (cA, .object Cn)) (hn : n ≤ 2147483647) (hi : i < n) (hv : va_rf (f i) = v) (k : gw_G K ws cells slots (pc + 1) lv (v :: st)) : gw_G K ws cells slots pc lv (iN i :: .ref a :: st) := fun H locs ls hl hP hD hS => va_aldq C.1.1 C.1.2.1 C.2.1 hP q0 t0 ha ht (vp_in_nI hi (by omega)) hd (by rw [nI_clamp (by omega), hv]; exact k H locs ls hl hP hD hS)
theorem gw_ast (C : gw_x K cc own Ts tys zz) {cA : ClassId} {n a i v ci : Nat} {vs : List Value} {r : vw_C} {f : Nat → Option Nat} {ws2 : va_W} (q0 t0 qk : Nat) (hd : decode cc pc = .ok (.aastore, 1)) (ha : ws[q0]? = some (a, .inl (cA, n, .inr (.inr (.inr (.inr f)))))) (ht : tys[t0]? = some (cA, .object r.1)) (hv : ws[qk]? = some (v, .inr (ci, vs))) (hc : vwCl[ci]? = some r) (hn : n ≤ 2147483647) (hi : i < n) (hw : ws.set q0 (a, .inl (cA, n, .inr (.inr (.inr (.inr (va_up f i (some v))))))) = ws2) (k : gw_G K ws2 cells slots (pc + 1) lv st) : gw_G K ws cells slots pc lv (.ref v :: iN i :: .ref a :: st) := fun H locs ls hl hP hD hS => va_astq C.1.1 C.1.2.1 C.2.1 hP hD hS q0 t0 qk ci ha ht hv hc (vp_in_nI hi (by omega)) hd (fun H1 locs1 hP1 hD1 hS1 => k H1 locs1 ls hl (by rw [nI_clamp (by omega), hw] at hP1; exact hP1) (by rw [nI_clamp (by omega), hw] at hD1; exact hD1) hS1)
theorem gw_astO (C : gw_x K cc own Ts tys zz) {cA : ClassId} {n a i v ci : Nat} {En : String} {vs : List Value} {r : vw_C} {f : Nat → Option Nat} {ws2 : va_W} (q0 t0 qk : Nat) (hca : va_Nw (.castable r.1 En) (ks K)) (hd : decode cc pc = .ok (.aastore, 1)) (ha : ws[q0]? = some (a, .inl (cA, n, .inr (.inr (.inr (.inr f)))))) (ht : tys[t0]? = some (cA, .object En)) (hv : ws[qk]? = some (v, .inr (ci, vs))) (hc : vwCl[ci]? = some r) (hn : n ≤ 2147483647) (hi : i < n) (hw : ws.set q0 (a, .inl (cA, n, .inr (.inr (.inr (.inr (va_up f i (some v))))))) = ws2) (k : gw_G K ws2 cells slots (pc + 1) lv st) : gw_G K ws cells slots pc lv (.ref v :: iN i :: .ref a :: st) := fun H locs ls hl hP hD hS => va_astqO C.1.1 C.1.2.1 C.2.1 hP hD hS q0 t0 qk ci ha ht hca hv hc (vp_in_nI hi (by omega)) hd (fun H1 locs1 hP1 hD1 hS1 => k H1 locs1 ls hl (by rw [nI_clamp (by omega), hw] at hP1; exact hP1) (by rw [nI_clamp (by omega), hw] at hD1; exact hD1) hS1)
theorem gw_lald (C : gw_x K cc own Ts tys zz) {cA : ClassId} {n a i : Nat} {f : Nat → Nat} (q0 t0 : Nat) (hd : decode cc pc = .ok (.laload, 1)) (ha : ws[q0]? = some (a, .inl (cA, n, .inr (.inl (fun j => lN (f j)))))) (ht : tys[t0]? = some (cA, .long)) (hn : n ≤ 2147483647) (hi : i < n) (k : gw_G K ws cells slots (pc + 1) lv (lV (f i) :: st)) : gw_G K ws cells slots pc lv (iN i :: .ref a :: st) := fun H locs ls hl hP hD hS => va_lald C.1.1 C.1.2.1 C.2.1 hP q0 t0 ha ht (vp_in_nI hi (by omega)) hd (by rw [nI_clamp (by omega)]; exact k H locs ls hl hP hD hS)
theorem gw_last (C : gw_x K cc own Ts tys zz) {cA : ClassId} {n a i v : Nat} {f : Nat → Int64} {ws2 : va_W} (q0 t0 : Nat) (hd : decode cc pc = .ok (.lastore, 1)) (ha : ws[q0]? = some (a, .inl (cA, n, .inr (.inl f)))) (ht : tys[t0]? = some (cA, .long)) (hn : n ≤ 2147483647) (hi : i < n) (hw : ws.set q0 (a, .inl (cA, n, .inr (.inl (vp_updL f i (lN v))))) = ws2) (k : gw_G K ws2 cells slots (pc + 1) lv st) : gw_G K ws cells slots pc lv (lV v :: iN i :: .ref a :: st) := fun H locs ls hl hP hD hS => va_last C.1.1 C.1.2.1 C.2.1 hP hD hS q0 t0 ha ht (vp_in_nI hi (by omega)) hd (fun H1 locs1 hP1 hD1 hS1 => k H1 locs1 ls hl (by rw [nI_clamp (by omega), hw] at hP1; exact hP1) (by rw [nI_clamp (by omega), hw] at hD1; exact hD1) hS1)
theorem lN_i2 (x : Nat) : (lN x).toInt32 = nI x := by
  apply Int32.toBitVec_inj.mp
  show (BitVec.ofNat 64 x).signExtend 32 = BitVec.ofNat 32 x
  rw [BitVec.signExtend_eq_setWidth_of_le _ (by decide)]
  apply BitVec.eq_of_toNat_eq
  simp only [BitVec.toNat_setWidth, BitVec.toNat_ofNat]
  omega
theorem gw_lushr (C : gw_x K cc own Ts tys zz) {a b : Nat} (hd : decode cc pc = .ok (.lushr, 1)) (hb : b < 64) (ha : a < 2 ^ 64) (k : gw_G K ws cells slots (pc + 1) lv (lV (a / 2 ^ b) :: st)) : gw_G K ws cells slots pc lv (iN b :: lV a :: st) := fun H locs ls hl hP hD hS => lv_lushr C.1.1 C.1.2.1 hd (wb_shr ha hb) (k H locs ls hl hP hD hS)
theorem gw_lshl (C : gw_x K cc own Ts tys zz) {a b : Nat} (hd : decode cc pc = .ok (.lshl, 1)) (hb : b < 64) (k : gw_G K ws cells slots (pc + 1) lv (lV (a * 2 ^ b) :: st)) : gw_G K ws cells slots pc lv (iN b :: lV a :: st) := fun H locs ls hl hP hD hS => lv_lshl C.1.1 C.1.2.1 hd (wb_shl a hb) (k H locs ls hl hP hD hS)
theorem gw_l2i (C : gw_x K cc own Ts tys zz) {a : Nat} (hd : decode cc pc = .ok (.l2i, 1)) (k : gw_G K ws cells slots (pc + 1) lv (iN a :: st)) : gw_G K ws cells slots pc lv (lV a :: st) := fun H locs ls hl hP hD hS => lv_l2i C.1.1 C.1.2.1 hd (lN_i2 a) (k H locs ls hl hP hD hS)
theorem gw_i2l (C : gw_x K cc own Ts tys zz) {a : Nat} (hd : decode cc pc = .ok (.i2l, 1)) (ha : a < 2 ^ 31) (k : gw_G K ws cells slots (pc + 1) lv (lV a :: st)) : gw_G K ws cells slots pc lv (iN a :: st) := fun H locs ls hl hP hD hS => lv_i2l C.1.1 C.1.2.1 hd (nI_l ha) (k H locs ls hl hP hD hS)
theorem gw_lconst1 (C : gw_x K cc own Ts tys zz) (hd : decode cc pc = .ok (.lconst 1, 1)) (k : gw_G K ws cells slots (pc + 1) lv (lV 1 :: st)) : gw_G K ws cells slots pc lv st := fun H locs ls hl hP hD hS => lv_lconst C.1.1 C.1.2.1 hd rfl (k H locs ls hl hP hD hS)
theorem gw_ladd (C : gw_x K cc own Ts tys zz) {a b : Nat} (hd : decode cc pc = .ok (.ladd, 1)) (k : gw_G K ws cells slots (pc + 1) lv (lV (a + b) :: st)) : gw_G K ws cells slots pc lv (lV b :: lV a :: st) := fun H locs ls hl hP hD hS => lv_ladd C.1.1 C.1.2.1 hd (by rw [lN_add]; exact k H locs ls hl hP hD hS)
theorem gw_lor (C : gw_x K cc own Ts tys zz) {a b : Nat} (hd : decode cc pc = .ok (.lor, 1)) (ha : a < 2 ^ 64) (hb : b < 2 ^ 64) (k : gw_G K ws cells slots (pc + 1) lv (lV (a ||| b) :: st)) : gw_G K ws cells slots pc lv (lV b :: lV a :: st) := fun H locs ls hl hP hD hS => lv_lor C.1.1 C.1.2.1 hd (by rw [wb_or ha hb]; exact k H locs ls hl hP hD hS)
theorem gw_nonnull (C : gw_x K cc own Ts tys zz) {x : Nat} {off : Int} (tgt : Nat) (hd : decode cc pc = .ok (.ifnonnull off, 3)) (ht : (pc : Int) + off = (tgt : Int)) (k : gw_G K ws cells slots tgt lv st) : gw_G K ws cells slots pc lv (.ref x :: st) := fun H locs ls hl hP hD hS => lv_ifnonnull C.1.1 C.1.2.1 hd ht (k H locs ls hl hP hD hS)
theorem gw_nonnullN (C : gw_x K cc own Ts tys zz) {off : Int} (hd : decode cc pc = .ok (.ifnonnull off, 3)) (k : gw_G K ws cells slots (pc + 3) lv st) : gw_G K ws cells slots pc lv (.null :: st) := fun H locs ls hl hP hD hS => lv_ifnonnullN C.1.1 C.1.2.1 hd (k H locs ls hl hP hD hS)
theorem gw_tabIn (C : gw_x K cc own Ts tys zz) {dflt lo hi : Int} {offs : Array Int} {len a : Nat} {off : Int} (tgt : Nat) (hd : decode cc pc = .ok (.tableswitch dflt lo hi offs, len)) (h1 : ¬ (nI a).toInt < lo) (h2 : ¬ hi < (nI a).toInt) (ho : offs[((nI a).toInt - lo).toNat]? = some off) (ht : (pc : Int) + off = (tgt : Int)) (k : gw_G K ws cells slots tgt lv st) : gw_G K ws cells slots pc lv (iN a :: st) := fun H locs ls hl hP hD hS => lv_tableIn C.1.1 C.1.2.1 hd h1 h2 ho ht (k H locs ls hl hP hD hS)
theorem gw_tabOut (C : gw_x K cc own Ts tys zz) {dflt lo hi : Int} {offs : Array Int} {len a : Nat} (tgt : Nat) (hd : decode cc pc = .ok (.tableswitch dflt lo hi offs, len)) (h : (nI a).toInt < lo ∨ hi < (nI a).toInt) (ht : (pc : Int) + dflt = (tgt : Int)) (k : gw_G K ws cells slots tgt lv st) : gw_G K ws cells slots pc lv (iN a :: st) := fun H locs ls hl hP hD hS => lv_tableOut C.1.1 C.1.2.1 hd h ht (k H locs ls hl hP hD hS)
def cpy1 (f : Nat → Nat) (sp dp n : Nat) : Nat → Nat := fun k => if dp ≤ k ∧ k < dp + n then f (sp + (k - dp)) else f k
theorem gw_copy (C : gw_x K cc own Ts tys zz) {cA : ClassId} {n a sp dp m index : Nat} {f : Nat → Nat} {ws2 : va_W} (q0 t0 : Nat) (hd : decode cc pc = .ok (.invokestatic index, 3)) (hlk : Cond.methodLink own index arraycopyName ∈ Ts) (hnat : Cond.native arraycopyName ∈ Ts) (hst : Cond.static arraycopyName ∈ Ts) (hini : Cond.initialized "java/lang/System" ∈ Ts) (ha : ws[q0]? = some (a, .inl (cA, n, .inl (fun j => nI (f j))))) (ht : tys[t0]? = some (cA, .int)) (hn : n < 2 ^ 31) (h1 : sp + m ≤ n) (h2 : dp + m ≤ n) (hfr : 1 ≤ (kR K).frames) (hlo : (st.map fun v => v.category).sum + (nativeFrameWords "java/lang/System" "arraycopy" 5 + 11) ≤ (kR K).locals) (hw : ws.set q0 (a, .inl (cA, n, .inl (fun j => nI (cpy1 f sp dp m j)))) = ws2) (k : gw_G K ws2 cells slots (pc + 3) lv st) : gw_G K ws cells slots pc lv (iN m :: iN dp :: .ref a :: iN sp :: .ref a :: st) := fun H locs ls hl hP hD hS => by
  have e : va_cpy (fun j => nI (f j)) (fun j => nI (f j)) (nI sp).toNatClampNeg (nI dp).toNatClampNeg (nI m).toNatClampNeg = fun j => nI (cpy1 f sp dp m j) := by
    rw [nI_clamp (by omega), nI_clamp (by omega), nI_clamp (by omega)]
    funext j
    simp only [va_cpy, cpy1]
    split <;> rfl
  have e2 : (kc K).maxLocals = ls.size := by rw [hl.1]; exact C.1.2.2.1
  refine va_copyi C.1.1 C.1.2.1 e2 C.1.2.2.2.1 (C.1.2.2.2.2 _ hlk) (C.1.2.2.2.2 _ hnat) (C.1.2.2.2.2 _ hst) (C.1.2.2.2.2 _ hini) C.2.1 hP hD hS q0 q0 t0 t0 ha ha ht ht rfl (nI_pos (by omega)) (nI_pos (by omega)) (nI_pos (by omega)) (by rw [nI_clamp (by omega), nI_clamp (by omega)]; exact h1) (by rw [nI_clamp (by omega), nI_clamp (by omega)]; exact h2) (fun _ _ => rfl) hfr hlo hd (fun H1 locs1 hP1 hD1 hS1 => ?_)
  rw [e, hw] at hP1 hD1
  exact k H1 locs1 ls hl hP1 hD1 hS1
theorem gw_aconst_null (C : gw_x K cc own Ts tys zz) (hd : decode cc pc = .ok (.aconst_null, 1)) (k : gw_G K ws cells slots (pc + 1) lv (.null :: st)) : gw_G K ws cells slots pc lv st := fun H locs ls hl hP hD hS => lv_null C.1.1 C.1.2.1 hd (k H locs ls hl hP hD hS)

theorem va_D_pw {A : Nat → Prop} {ws : va_W} : va_D A ws ↔ (ws.Pairwise (fun p q => p.1 ≠ q.1) ∧ ∀ p ∈ ws, A p.1) := by
  constructor
  · intro h
    refine ⟨List.pairwise_iff_getElem.mpr (fun i j hi hj hij he => ?_), fun p hp => ?_⟩
    · have := h.1 i j _ _ (List.getElem?_eq_getElem hi) (List.getElem?_eq_getElem hj) he
      omega
    · obtain ⟨i, hi⟩ := List.getElem?_of_mem hp
      exact h.2 i p hi
  · intro h
    refine ⟨fun i j p q hi hj he => ?_, fun k q hk => h.2 q (List.mem_of_getElem? hk)⟩
    obtain ⟨hi', ei⟩ := List.getElem?_eq_some_iff.mp hi
    obtain ⟨hj', ej⟩ := List.getElem?_eq_some_iff.mp hj
    have pw := List.pairwise_iff_getElem.mp h.1
    rcases Nat.lt_trichotomy i j with g | g | g
    · exact absurd (by rw [ei, ej]; exact he) (pw i j hi' hj' g)
    · exact g
    · exact absurd (by rw [ei, ej]; exact he.symm) (pw j i hj' hi' g)
theorem va_P_mem {D : va_G} {ws : va_W} {H : Heap} : va_P D vwCl ws H ↔ ∀ p ∈ ws, va_at D vwCl p H := by
  constructor
  · intro h p hp
    obtain ⟨i, hi⟩ := List.getElem?_of_mem hp
    exact h i p hi
  · intro h k q hk
    exact h q (List.mem_of_getElem? hk)
theorem gw_permL {ws2 l : va_W} (h : ws.Perm (ws2 ++ l)) (k : gw_G K ws2 cells slots pc lv st) : gw_G K ws cells slots pc lv st := fun H locs ls hL hP hD hS => by
  refine k H locs ls hL ?_ ?_ hS
  · rw [va_P_mem] at hP ⊢
    exact fun p hp => hP p (h.mem_iff.mpr (List.mem_append_left _ hp))
  · rw [va_D_pw] at hD ⊢
    refine ⟨?_, fun p hp => hD.2 p (h.mem_iff.mpr (List.mem_append_left _ hp))⟩
    have := (h.pairwise_iff (fun {x y} (q : x.1 ≠ y.1) => q.symm)).mp hD.1
    exact (List.pairwise_append.mp this).1
end GWQ
/-- sixteen nibbles in a word -/
def wdr (g : Nat → Nat) (j : Nat) : Nat → Nat
  | 0 => 0
  | n + 1 => wdr g j n + g (16 * j + n) * 16 ^ n
def wd (g : Nat → Nat) (j : Nat) : Nat := wdr g j 16
theorem wdr_lt {g : Nat → Nat} (h : ∀ s, g s < 16) (j : Nat) : ∀ n, wdr g j n < 16 ^ n
  | 0 => Nat.one_pos
  | n + 1 => by
    have a := wdr_lt h j n
    have b := h (16 * j + n)
    rw [wdr, Nat.pow_succ]
    have : g (16 * j + n) * 16 ^ n ≤ 15 * 16 ^ n := Nat.mul_le_mul_right _ (by omega)
    omega
theorem wdr_get {g : Nat → Nat} (h : ∀ s, g s < 16) (j i : Nat) : ∀ n, i < n → wdr g j n / 16 ^ i % 16 = g (16 * j + i)
  | 0, q => absurd q (by omega)
  | n + 1, q => by
    have a := wdr_lt h j n
    rw [wdr]
    by_cases e : i = n
    · subst e
      rw [Nat.add_mul_div_right _ _ (Nat.pow_pos (by decide)), Nat.div_eq_of_lt a, Nat.zero_add, Nat.mod_eq_of_lt (h _)]
    · have hn : 16 ^ n = 16 * 16 ^ (n - i - 1) * 16 ^ i := by
        rw [show n = (n - i - 1) + 1 + i by omega, Nat.pow_add, Nat.pow_succ, show n - i - 1 + 1 + i - i - 1 = n - i - 1 by omega]
        rw [Nat.mul_comm (16 ^ (n - i - 1)) 16]
      rw [hn, ← Nat.mul_assoc, Nat.add_mul_div_right _ _ (Nat.pow_pos (by decide)), show g (16 * j + n) * (16 * 16 ^ (n - i - 1)) = 16 * (g (16 * j + n) * 16 ^ (n - i - 1)) by rw [Nat.mul_left_comm], Nat.add_mul_mod_self_left]
      exact wdr_get h j i n (by omega)
theorem wdr_set {g : Nat → Nat} (j i v : Nat) (h0 : g (16 * j + i) = 0) : ∀ n, wdr (up1 g (16 * j + i) v) j n = if i < n then wdr g j n + v * 16 ^ i else wdr g j n
  | 0 => by rw [if_neg (by omega)]; rfl
  | n + 1 => by
    rw [wdr, wdr_set j i v h0 n, wdr]
    by_cases e : i = n
    · subst e
      rw [if_neg (by omega), if_pos (by omega), h0]
      simp [up1]
    · have : up1 g (16 * j + i) v (16 * j + n) = g (16 * j + n) := by simp only [up1]; rw [if_neg (by omega)]
      rw [this]
      by_cases q : i < n
      · rw [if_pos q, if_pos (by omega)]; omega
      · rw [if_neg q, if_neg (by omega)]
theorem or_nib {a v k : Nat} (hv : v < 16) (h0 : a / 2 ^ k % 16 = 0) : a ||| v * 2 ^ k = a + v * 2 ^ k := by
  have hp : 0 < 2 ^ k := Nat.pow_pos (by decide)
  have e1 : a = 2 ^ k * (2 ^ 4 * (a / 2 ^ k / 16)) + a % 2 ^ k := by
    have := Nat.div_add_mod a (2 ^ k)
    have h2 := Nat.div_add_mod (a / 2 ^ k) 16
    have : 2 ^ 4 * (a / 2 ^ k / 16) = a / 2 ^ k := by omega
    rw [this]; omega
  generalize a / 2 ^ k / 16 = h at e1
  have hl : a % 2 ^ k < 2 ^ k := Nat.mod_lt _ hp
  generalize a % 2 ^ k = lo at e1 hl
  subst e1
  have e2 : 2 ^ k * (2 ^ 4 * h) + lo + v * 2 ^ k = 2 ^ k * (2 ^ 4 * h + v) + lo := by rw [Nat.mul_add, Nat.mul_comm v]; omega
  rw [e2]
  apply Nat.eq_of_testBit_eq
  intro t
  have e3 : v * 2 ^ k = 2 ^ k * v + 0 := by rw [Nat.mul_comm]; rfl
  rw [Nat.testBit_or, Nat.testBit_two_pow_mul_add _ hl, e3, Nat.testBit_two_pow_mul_add _ hp, Nat.testBit_two_pow_mul_add _ hl]
  by_cases q : t < k
  · rw [if_pos q, if_pos q, if_pos q]; simp
  · rw [if_neg q, if_neg q, if_neg q]
    have e4 : 2 ^ 4 * h = 2 ^ 4 * h + 0 := rfl
    rw [Nat.testBit_two_pow_mul_add _ hv]
    rw [e4, Nat.testBit_two_pow_mul_add _ (show 0 < 2 ^ 4 by decide)]
    by_cases q2 : t - k < 4
    · rw [if_pos q2, if_pos q2]; simp
    · rw [if_neg q2, if_neg q2, Nat.testBit_lt_two_pow (show v < 2 ^ (t - k) from Nat.lt_of_lt_of_le (show v < 2 ^ 4 from hv) (Nat.pow_le_pow_right (show 0 < 2 by decide) (show 4 ≤ t - k by omega)))]; simp
theorem wd_lt {g : Nat → Nat} (h : ∀ s, g s < 16) (j : Nat) : wd g j < 2 ^ 64 := wdr_lt h j 16
theorem wd_get {g : Nat → Nat} (h : ∀ s, g s < 16) (s : Nat) : wd g (s / 2 ^ 4) / 2 ^ (4 * (s &&& 15)) &&& 15 = g s := by
  rw [show (15 : Nat) = 2 ^ 4 - 1 from rfl, Nat.and_two_pow_sub_one_eq_mod, Nat.and_two_pow_sub_one_eq_mod, Nat.pow_mul]
  have := wdr_get h (s / 16) (s % 16) 16 (Nat.mod_lt _ (by decide))
  rw [Nat.div_add_mod] at this
  exact this
theorem wd_set {g : Nat → Nat} (h : ∀ s, g s < 16) (s v : Nat) (hv : v < 16) (h0 : g s = 0) : wd g (s / 2 ^ 4) ||| v * 2 ^ (4 * (s &&& 15)) = wd (up1 g s v) (s / 2 ^ 4) := by
  have e : s = 16 * (s / 16) + s % 16 := (Nat.div_add_mod s 16).symm
  have hz := wd_get h s
  rw [h0, show (15 : Nat) = 2 ^ 4 - 1 from rfl, Nat.and_two_pow_sub_one_eq_mod, Nat.and_two_pow_sub_one_eq_mod] at hz
  rw [show (15 : Nat) = 2 ^ 4 - 1 from rfl, Nat.and_two_pow_sub_one_eq_mod, or_nib hv hz]
  have q := wdr_set (g := g) (s / 16) (s % 16) v (by rw [← e]; exact h0) 16
  rw [if_pos (Nat.mod_lt _ (by decide)), ← e] at q
  rw [wd, show s / 2 ^ 4 = s / 16 from rfl, wd, q, Nat.pow_mul]
theorem wd_other {g : Nat → Nat} (s v j : Nat) (hj : j ≠ s / 2 ^ 4) : wd (up1 g s v) j = wd g j := by
  have : ∀ n, n ≤ 16 → wdr (up1 g s v) j n = wdr g j n := by
    intro n
    induction n with
    | zero => intro _; rfl
    | succ n ih =>
      intro hn
      rw [wdr, wdr, ih (by omega)]
      have : up1 g s v (16 * j + n) = g (16 * j + n) := by simp only [up1]; rw [if_neg (by omega)]
      rw [this]
  exact this 16 (Nat.le_refl _)

