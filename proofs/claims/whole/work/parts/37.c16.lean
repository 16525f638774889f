theorem in_X9_prepare_X0 : ∀ w ∈ wsX00, w ∈ wsX9_prepare := fun _ h => List.mem_cons_of_mem _ (List.mem_append_left _ (List.mem_append_left _ (List.mem_append_left _ (List.mem_append_left _ (List.mem_append_left _ (List.mem_append_right _ (h)))))))
theorem in_X9_prepare_X3 : ∀ w ∈ wsX30, w ∈ wsX9_prepare := fun _ h => List.mem_cons_of_mem _ (List.mem_append_left _ (List.mem_append_left _ (List.mem_append_left _ (List.mem_append_left _ (List.mem_append_right _ (h))))))
theorem in_X9_prepare_X5 : ∀ w ∈ wsX50, w ∈ wsX9_prepare := fun _ h => List.mem_cons_of_mem _ (List.mem_append_left _ (List.mem_append_left _ (List.mem_append_left _ (List.mem_append_right _ (h)))))
theorem in_X9_prepare_X6 : ∀ w ∈ wsX60, w ∈ wsX9_prepare := fun _ h => List.mem_cons_of_mem _ (List.mem_append_left _ (List.mem_append_left _ (List.mem_append_right _ (h))))
theorem in_X9_prepare_X8 : ∀ w ∈ wsX80, w ∈ wsX9_prepare := fun _ h => List.mem_cons_of_mem _ (List.mem_append_left _ (List.mem_append_right _ (h)))
theorem in_X9_prepare_X9 : ∀ w ∈ wsX90, w ∈ wsX9_prepare := fun _ h => List.mem_cons_of_mem _ (List.mem_append_left _ (List.mem_append_left _ (List.mem_append_left _ (List.mem_append_left _ (List.mem_append_left _ (List.mem_append_left _ (List.mem_append_right _ (h))))))))
theorem lk_X9_prepare_9 : Cond.fieldLink RX9 9 "StageCube$Stage" "facesWithQuarters" "I" ∈ wsX9_prepare := by decide +kernel
theorem lk_X9_prepare_21 : Cond.fieldLink RX9 21 "StageCube$Stage" "features" "[LStageCube$Feature;" ∈ wsX9_prepare := by decide +kernel
theorem lk_X9_prepare_36 : Cond.fieldLink RX9 36 "StageCube$Stage" "near" "[J" ∈ wsX9_prepare := by decide +kernel
theorem lk_X9_prepare_86 : Cond.fieldLink RX9 86 "StageCube$Feature" "size" "I" ∈ wsX9_prepare := by decide +kernel
def sfP (nx : Nat → Nat → Nat) (sz : Nat → Nat) (nf fwq rch ql NL E : Nat) : Prop := (∀ i, i < E → i < (sf_ nx sz nf fwq rch ql i).2.2 ∧ i < ql) ∧ ((sf_ nx sz nf fwq rch ql E).2.2 ≤ E ∨ ql ≤ E) ∧ E ≤ ql ∧ (∀ i, i ≤ E → sp_ok ql (sf_ nx sz nf fwq rch ql i)) ∧ ∀ i, i < E → (sf_ nx sz nf fwq rch ql i).2.1 i < 2 ^ 4 * NL ∧ (sf_ nx sz nf fwq rch ql i).1 ((sf_ nx sz nf fwq rch ql i).2.1 i) < 15
def nxP (nx : Nat → Nat → Nat) (sz : Nat → Nat) (nf : Nat) : Prop := ∀ fc, fc < 6 → ∀ i, i < nf → ∀ v, v < sz i → nx i (6 * v + fc) < sz i
theorem wd0r (j : Nat) : ∀ n, wdr (fun _ => 0) j n = 0
  | 0 => rfl
  | n + 1 => by rw [wdr, wd0r j n, Nat.zero_mul]
theorem wd0 : (fun _ => (0 : Int64)) = fun j => lN (wd (fun _ => 0) j) := by
  funext j
  rw [wd, wd0r]
  rfl
theorem sz0_pos : ∀ i, i < 1 → 0 < sz0 i := by decide
theorem sv_lt0 : ∀ y : Nat → Nat, (∀ i, i < 1 → y i < sz0 i) → sv_ sz0 y 1 < 2 ^ 4 * 128 := by
  intro y h
  have h0 : y 0 < 2048 := h 0 (by decide)
  show (0 * 2048 + y 0) < _
  omega
def ln0 (nx : Nat → Nat → Nat) : Prop := lnI_me (nx 0)
theorem sz1_pos : ∀ i, i < 2 → 0 < sz1 i := by decide
theorem sv_lt1 : ∀ y : Nat → Nat, (∀ i, i < 2 → y i < sz1 i) → sv_ sz1 y 2 < 2 ^ 4 * 67661 := by
  intro y h
  have h0 : y 0 < 2187 := h 0 (by decide)
  have h1 : y 1 < 495 := h 1 (by decide)
  show ((0 * 2187 + y 0) * 495 + y 1) < _
  omega
def ln1 (nx : Nat → Nat → Nat) : Prop := lnI_mc (nx 0) ∧ lnI_pl12 (nx 1)
theorem sz2_pos : ∀ i, i < 2 → 0 < sz2 i := by decide
theorem sv_lt2 : ∀ y : Nat → Nat, (∀ i, i < 2 → y i < sz2 i) → sv_ sz2 y 2 < 2 ^ 4 * 1838 := by
  intro y h
  have h0 : y 0 < 420 := h 0 (by decide)
  have h1 : y 1 < 70 := h 1 (by decide)
  show ((0 * 420 + y 0) * 70 + y 1) < _
  omega
def ln2 (nx : Nat → Nat → Nat) : Prop := lnI_pa (nx 0) ∧ lnI_pl8 (nx 1)
theorem sz3_pos : ∀ i, i < 4 → 0 < sz3 i := by decide
theorem sv_lt3 : ∀ y : Nat → Nat, (∀ i, i < 4 → y i < sz3 i) → sv_ sz3 y 4 < 2 ^ 4 * 82944 := by
  intro y h
  have h0 : y 0 < 96 := h 0 (by decide)
  have h1 : y 1 < 24 := h 1 (by decide)
  have h2 : y 2 < 24 := h 2 (by decide)
  have h3 : y 3 < 24 := h 3 (by decide)
  show ((((0 * 96 + y 0) * 24 + y 1) * 24 + y 2) * 24 + y 3) < _
  omega
def ln3 (nx : Nat → Nat → Nat) : Prop := lnI_co (nx 0) ∧ lnI_or0 (nx 1) ∧ lnI_or1 (nx 2) ∧ lnI_or2 (nx 3)
set_option maxHeartbeats 4000000 in
set_option maxRecDepth 100000 in
theorem c_prepare0 (l : Launch) (D : va_G) (cI cB cS cJ cF cG : ClassId) (tt : Nat → Nat) (sa : Nat → Nat) (Wy Nm : Nat → Nat) (sc nx : Nat → Nat → Nat) (E : Nat) (hsc : sc_ok 0 sc) (hln : ln0 nx) (hnx : nxP nx sz0 1) (hsf : sfP nx sz0 1 6 7 2048 128 E) : gw_CV (S := (Nat → Nat) × (Nat → Nat → Nat) × (Nat → Nat)) l yX9_prepare wsX9_prepare 4 100 6 14494 D (mo_ty cI cB cS cJ cF cG) (zs tt) (sg_ws cI cF sa 1 6 7 2048 (.null) (Wy) (Nm) (fu0_ws cI sa (sc))) [.ref (sa 0)] (fun u => u.1 0 = sa 0 ∧ u.1 1 = sa 1 ∧ sc_ok 0 u.2.1) (fun u => sg_ws cI cF (u.1) 1 6 7 2048 (.ref ((u.1) 4)) (Wy) (u.2.2) (((u.1) 4, .inl (cJ, 128, .inr (.inl (fun j => lN (wd ((sf_ nx sz0 1 6 7 2048 E).1) j))))) :: fl0_ws cI (u.1) (u.2.1) nx)) := by
  refine gw_CV.of (cc := cX9_prepare) (maxL := 3) (zs_ok tt) (by decide) rfl (Nat.le_of_ble_eq_true rfl) ?_
  intro K C hkl hkn hkR hkD hmn ret
  have C : gw_x K cX9_prepare RX9 wsX9_prepare (mo_ty cI cB cS cJ cF cG) (zs tt) := C
  subst hkl hkD
  have hrc : (kR K).cells = 6 := by rw [hkR]
  have hrs : (kR K).slots = 14494 := by rw [hkR]
  refine gw_iconst C 1 dX9_prepare_0 (by decide) ?_
  refine gw_istore_n C (lv2 := [(1, iN (1)), (0, .ref (sa 0))]) dX9_prepare_1 rfl (by omega) rfl ?_
  refine gw_iconst C 0 dX9_prepare_2 (by decide) ?_
  refine gw_istore_n C (lv2 := [(2, iN (0)), (1, iN (1)), (0, .ref (sa 0))]) dX9_prepare_3 rfl (by omega) rfl ?_
  refine gw_iload_n C 0 dX9_prepare_4 rfl rfl ?_
  refine gw_aload_n C 2 dX9_prepare_5 rfl rfl ?_
  refine gw_get C 0 4 in_X9_prepare_X9 dX9_prepare_6 lk_X9_prepare_21 rfl rfl (by decide) rfl rfl ?_
  refine gw_alen C 2 4 (1) dX9_prepare_9 rfl rfl rfl ?_
  refine gw_icmp_ge C 44 dX9_prepare_10 (by decide) (by omega) (by omega) (fun h121 => ?_) (fun h121 => ?_)
  · exact absurd h121 (by decide)
  refine gw_aload_n C 2 dX9_prepare_13 rfl rfl ?_
  refine gw_get C 0 4 in_X9_prepare_X9 dX9_prepare_14 lk_X9_prepare_21 rfl rfl (by decide) rfl rfl ?_
  refine gw_iload_n C 0 dX9_prepare_17 rfl rfl ?_
  refine gw_ald C (v := .ref (sa 10)) 2 4 dX9_prepare_18 rfl rfl (by decide) (by decide) rfl ?_
  refine gw_aload_n C 2 dX9_prepare_19 rfl rfl ?_
  refine gw_get C 0 1 in_X9_prepare_X9 dX9_prepare_20 lk_X9_prepare_9 rfl rfl (by decide) rfl rfl ?_
  refine gw_callUV (n := 1) (wr := [(sa 0, .inr (7, [.ref (sa 1), iN (6), iN (7), iN (2048), .ref (sa 2), .ref (sa 3), .null])), (sa 1, .inl (cI, 15, .inl (fun j => nI (Wy j)))), (sa 2, .inl (cF, 1, .inr (.inr (.inr (.inr (fq_ sa 1)))))), (sa 3, .inl (cI, 16 * 1, .inl (fun j => nI (Nm j))))]) C (c_ln_me (kl K) (kD K) cI cB cS cJ cF cG tt (sa 10) (nx 0) hln.1 hln.2) 0 rfl rfl rfl gX9_prepare_X2_learn_u92X3 rfl rfl (by decide +kernel) dX9_prepare_23 (by rw [hkR]; decide) (by rw [hrc, hrs]; decide) [4] [0, 1, 2, 3] rfl rfl rfl rfl (by decide) rfl (Nat.le_of_ble_eq_true rfl) rfl (fun u0 hu0 => ?_)
  refine gw_ws (ws2 := [(sa 0, .inr (7, [.ref (sa 1), iN (6), iN (7), iN (2048), .ref (sa 2), .ref (sa 3), .null])), (sa 1, .inl (cI, 15, .inl (fun j => nI (Wy j)))), (sa 2, .inl (cF, 1, .inr (.inr (.inr (.inr (fq_ sa 1)))))), (sa 3, .inl (cI, 16 * 1, .inl (fun j => nI (Nm j)))), (sa 10, .inr (2, [iN (0), iN (2048), .ref (u0)])), (u0, .inl (cI, 12288, .inl (fun j => nI ((nx 0) j))))]) rfl ?_
  refine gw_iload_n C 1 dX9_prepare_26 rfl rfl ?_
  refine gw_aload_n C 2 dX9_prepare_27 rfl rfl ?_
  refine gw_get C 0 4 in_X9_prepare_X9 dX9_prepare_28 lk_X9_prepare_21 rfl rfl (by decide) rfl rfl ?_
  refine gw_iload_n C 0 dX9_prepare_31 rfl rfl ?_
  refine gw_ald C (v := .ref (sa 10)) 2 4 dX9_prepare_32 rfl rfl (by decide) (by decide) rfl ?_
  refine gw_get C 4 1 in_X9_prepare_X3 dX9_prepare_33 lk_X9_prepare_86 rfl rfl (by decide) rfl rfl ?_
  refine gw_imul C dX9_prepare_36 ?_
  refine gw_istore_n C (lv2 := [(1, iN ((1) * (2048))), (2, iN (0)), (0, .ref (sa 0))]) dX9_prepare_37 rfl (by omega) rfl ?_
  refine gw_iinc C (v := nI (1)) (lv2 := [(2, iN (1)), (1, iN ((1) * (2048))), (0, .ref (sa 0))]) 1 dX9_prepare_38 rfl (by decide) (by omega) rfl ?_
  refine gw_goto C 4 dX9_prepare_41 (by decide) ?_
  refine gw_iload_n C 0 dX9_prepare_4 rfl rfl ?_
  refine gw_aload_n C 2 dX9_prepare_5 rfl rfl ?_
  refine gw_get C 0 4 in_X9_prepare_X9 dX9_prepare_6 lk_X9_prepare_21 rfl rfl (by decide) rfl rfl ?_
  refine gw_alen C 2 4 (1) dX9_prepare_9 rfl rfl rfl ?_
  refine gw_icmp_ge C 44 dX9_prepare_10 (by decide) (by omega) (by omega) (fun h122 => ?_) (fun h122 => ?_)
  rotate_left
  · exact absurd h122 (by decide)
  refine gw_aload_n C 2 dX9_prepare_44 rfl rfl ?_
  refine gw_iload_n C 1 dX9_prepare_45 rfl rfl ?_
  refine gw_bipush C 15 dX9_prepare_46 (by decide) ?_
  refine gw_iadd C dX9_prepare_48 ?_
  refine gw_bipush C 16 dX9_prepare_49 (by decide) ?_
  refine gw_idiv C dX9_prepare_51 (by omega) (by omega) (by omega) ?_
  refine gw_newa C 3 dX9_prepare_52 rfl (by decide +kernel) rfl (fun _ _ h => h) (a0 := (128, .inr (.inl (fun _ => 0)))) (fun _ => rfl) (by decide) (by decide) (by omega) (by omega) (fun nr => ?_)
  rw [wd0]
  refine gw_ws (ws2 := [(sa 0, .inr (7, [.ref (sa 1), iN (6), iN (7), iN (2048), .ref (sa 2), .ref (sa 3), .null])), (sa 1, .inl (cI, 15, .inl (fun j => nI (Wy j)))), (sa 2, .inl (cF, 1, .inr (.inr (.inr (.inr (fq_ sa 1)))))), (sa 3, .inl (cI, 16 * 1, .inl (fun j => nI (Nm j)))), (sa 10, .inr (2, [iN (0), iN (2048), .ref (u0)])), (u0, .inl (cI, 12288, .inl (fun j => nI ((nx 0) j)))), (nr, .inl (cJ, 128, .inr (.inl (fun j => lN ((wd (fun _ => 0)) j)))))]) rfl ?_
  refine gw_put C (ty := (.array .long)) (ws2 := [(sa 0, .inr (7, [.ref (sa 1), iN (6), iN (7), iN (2048), .ref (sa 2), .ref (sa 3), .ref (nr)])), (sa 1, .inl (cI, 15, .inl (fun j => nI (Wy j)))), (sa 2, .inl (cF, 1, .inr (.inr (.inr (.inr (fq_ sa 1)))))), (sa 3, .inl (cI, 16 * 1, .inl (fun j => nI (Nm j)))), (sa 10, .inr (2, [iN (0), iN (2048), .ref (u0)])), (u0, .inl (cI, 12288, .inl (fun j => nI ((nx 0) j)))), (nr, .inl (cJ, 128, .inr (.inl (fun j => lN ((wd (fun _ => 0)) j)))))]) 0 6 tyX9 tyX9_ok nmX9 in_X9_prepare_X9 dX9_prepare_54 lk_X9_prepare_36 rfl rfl (by decide) rfl rfl (by decide +kernel) rfl rfl (Nat.le_of_ble_eq_true rfl) rfl ?_
  refine gw_aload_n C 2 dX9_prepare_57 rfl rfl ?_
  refine gw_perm (ws2 := sg_ws cI cF ((fun j => if j = 4 then nr else if j = 11 then u0 else sa j)) 1 6 7 2048 (.ref (((fun j => if j = 4 then nr else if j = 11 then u0 else sa j)) 4)) (Wy) (Nm) ((((fun j => if j = 4 then nr else if j = 11 then u0 else sa j)) 4, .inl (cJ, 128, .inr (.inl (fun j => lN (wd (fun _ => 0) j))))) :: fl0_ws cI ((fun j => if j = 4 then nr else if j = 11 then u0 else sa j)) (sc) nx)) [0, 1, 2, 3, 6, 4, 5] rfl (by decide) trivial ?_
  refine gw_allVV (n := 0) C (c_sfg (kl K) (kD K) cI cB cS cJ cF cG tt (fun j => if j = 4 then nr else if j = 11 then u0 else sa j) 1 6 7 2048 128 sz0 nx (fl0_ws cI (fun j => if j = 4 then nr else if j = 11 then u0 else sa j) sc nx) Wy (fun qa Nm g Q d hd => c_stateAt02 (kl K) (kD K) cI cB cS cJ cF cG tt (fun j => if j = 4 then nr else if j = 11 then u0 else sa j) Wy Nm _ sc nx _ _ d hd) (fun qa Nm g Q d fc hd hf h => c_advance02 (kl K) (kD K) cI cB cS cJ cF cG tt (fun j => if j = 4 then nr else if j = 11 then u0 else sa j) Wy Nm _ sc nx _ _ d fc hd hf (h 0 (by decide))) (fun qa Nm g Q s hs => c_showState0 (kl K) (kD K) cI cB cS cJ cF cG tt (fun j => if j = 4 then nr else if j = 11 then u0 else sa j) Wy Nm _ sc nx _ _ s hs) (by decide) (by decide) (by decide) (by decide) (by decide) sz0_pos hnx sv_lt0 Nm E (by decide) (by decide) hsf.1 hsf.2.1 hsf.2.2.1 hsf.2.2.2.1 hsf.2.2.2.2) 0 rfl rfl rfl gX9_prepare_X9_spreadFromGoal rfl (by decide +kernel) dX9_prepare_58 (by rw [hkR]; decide) (by rw [hrc, hrs]; decide) rfl (Nat.le_of_ble_eq_true rfl) rfl (fun z hz => ?_)
  exact ret ((fun j => if j = 4 then nr else if j = 11 then u0 else sa j), sc, z) dX9_prepare_61 ⟨rfl, rfl, (fun h => absurd h (by decide))⟩ rfl (by decide) (by decide)
set_option maxHeartbeats 4000000 in
set_option maxRecDepth 100000 in
theorem c_prepare1 (l : Launch) (D : va_G) (cI cB cS cJ cF cG : ClassId) (tt : Nat → Nat) (sa : Nat → Nat) (Wy Nm : Nat → Nat) (sc nx : Nat → Nat → Nat) (E : Nat) (hsc : sc_ok 1 sc) (hln : ln1 nx) (hnx : nxP nx sz1 2) (hsf : sfP nx sz1 2 4 5 2048 67661 E) : gw_CV (S := (Nat → Nat) × (Nat → Nat → Nat) × (Nat → Nat)) l yX9_prepare wsX9_prepare 4 100 10 85853 D (mo_ty cI cB cS cJ cF cG) (zs tt) (sg_ws cI cF sa 2 4 5 2048 (.null) (Wy) (Nm) (fu1_ws cI sa (sc))) [.ref (sa 0)] (fun u => u.1 0 = sa 0 ∧ u.1 1 = sa 1 ∧ sc_ok 1 u.2.1) (fun u => sg_ws cI cF (u.1) 2 4 5 2048 (.ref ((u.1) 4)) (Wy) (u.2.2) (((u.1) 4, .inl (cJ, 67661, .inr (.inl (fun j => lN (wd ((sf_ nx sz1 2 4 5 2048 E).1) j))))) :: fl1_ws cI (u.1) (u.2.1) nx)) := by
  refine gw_CV.of (cc := cX9_prepare) (maxL := 3) (zs_ok tt) (by decide) rfl (Nat.le_of_ble_eq_true rfl) ?_
  intro K C hkl hkn hkR hkD hmn ret
  have C : gw_x K cX9_prepare RX9 wsX9_prepare (mo_ty cI cB cS cJ cF cG) (zs tt) := C
  subst hkl hkD
  have hrc : (kR K).cells = 10 := by rw [hkR]
  have hrs : (kR K).slots = 85853 := by rw [hkR]
  refine gw_iconst C 1 dX9_prepare_0 (by decide) ?_
  refine gw_istore_n C (lv2 := [(1, iN (1)), (0, .ref (sa 0))]) dX9_prepare_1 rfl (by omega) rfl ?_
  refine gw_iconst C 0 dX9_prepare_2 (by decide) ?_
  refine gw_istore_n C (lv2 := [(2, iN (0)), (1, iN (1)), (0, .ref (sa 0))]) dX9_prepare_3 rfl (by omega) rfl ?_
  refine gw_iload_n C 0 dX9_prepare_4 rfl rfl ?_
  refine gw_aload_n C 2 dX9_prepare_5 rfl rfl ?_
  refine gw_get C 0 4 in_X9_prepare_X9 dX9_prepare_6 lk_X9_prepare_21 rfl rfl (by decide) rfl rfl ?_
  refine gw_alen C 2 4 (2) dX9_prepare_9 rfl rfl rfl ?_
  refine gw_icmp_ge C 44 dX9_prepare_10 (by decide) (by omega) (by omega) (fun h123 => ?_) (fun h123 => ?_)
  · exact absurd h123 (by decide)
  refine gw_aload_n C 2 dX9_prepare_13 rfl rfl ?_
  refine gw_get C 0 4 in_X9_prepare_X9 dX9_prepare_14 lk_X9_prepare_21 rfl rfl (by decide) rfl rfl ?_
  refine gw_iload_n C 0 dX9_prepare_17 rfl rfl ?_
  refine gw_ald C (v := .ref (sa 10)) 2 4 dX9_prepare_18 rfl rfl (by decide) (by decide) rfl ?_
  refine gw_aload_n C 2 dX9_prepare_19 rfl rfl ?_
  refine gw_get C 0 1 in_X9_prepare_X9 dX9_prepare_20 lk_X9_prepare_9 rfl rfl (by decide) rfl rfl ?_
  refine gw_callUV (n := 1) (wr := [(sa 0, .inr (7, [.ref (sa 1), iN (4), iN (5), iN (2048), .ref (sa 2), .ref (sa 3), .null])), (sa 1, .inl (cI, 15, .inl (fun j => nI (Wy j)))), (sa 2, .inl (cF, 2, .inr (.inr (.inr (.inr (fq_ sa 2)))))), (sa 3, .inl (cI, 16 * 2, .inl (fun j => nI (Nm j)))), (sa 20, .inr (6, [iN (0), iN (495), .null, iN (2), iN (12)]))]) C (c_ln_mc (kl K) (kD K) cI cB cS cJ cF cG tt (sa 10) (nx 0) hln.1.1 hln.1.2) 0 rfl rfl rfl gX9_prepare_X2_learn_u92X3 rfl rfl (by decide +kernel) dX9_prepare_23 (by rw [hkR]; decide) (by rw [hrc, hrs]; decide) [4] [0, 1, 2, 3, 5] rfl rfl rfl rfl (by decide) rfl (Nat.le_of_ble_eq_true rfl) rfl (fun u0 hu0 => ?_)
  refine gw_ws (ws2 := [(sa 0, .inr (7, [.ref (sa 1), iN (4), iN (5), iN (2048), .ref (sa 2), .ref (sa 3), .null])), (sa 1, .inl (cI, 15, .inl (fun j => nI (Wy j)))), (sa 2, .inl (cF, 2, .inr (.inr (.inr (.inr (fq_ sa 2)))))), (sa 3, .inl (cI, 16 * 2, .inl (fun j => nI (Nm j)))), (sa 20, .inr (6, [iN (0), iN (495), .null, iN (2), iN (12)])), (sa 10, .inr (2, [iN (1), iN (2187), .ref (u0)])), (u0, .inl (cI, 13122, .inl (fun j => nI ((nx 0) j))))]) rfl ?_
  refine gw_iload_n C 1 dX9_prepare_26 rfl rfl ?_
  refine gw_aload_n C 2 dX9_prepare_27 rfl rfl ?_
  refine gw_get C 0 4 in_X9_prepare_X9 dX9_prepare_28 lk_X9_prepare_21 rfl rfl (by decide) rfl rfl ?_
  refine gw_iload_n C 0 dX9_prepare_31 rfl rfl ?_
  refine gw_ald C (v := .ref (sa 10)) 2 4 dX9_prepare_32 rfl rfl (by decide) (by decide) rfl ?_
  refine gw_get C 5 1 in_X9_prepare_X3 dX9_prepare_33 lk_X9_prepare_86 rfl rfl (by decide) rfl rfl ?_
  refine gw_imul C dX9_prepare_36 ?_
  refine gw_istore_n C (lv2 := [(1, iN ((1) * (2187))), (2, iN (0)), (0, .ref (sa 0))]) dX9_prepare_37 rfl (by omega) rfl ?_
  refine gw_iinc C (v := nI (1)) (lv2 := [(2, iN (1)), (1, iN ((1) * (2187))), (0, .ref (sa 0))]) 1 dX9_prepare_38 rfl (by decide) (by omega) rfl ?_
  refine gw_goto C 4 dX9_prepare_41 (by decide) ?_
  refine gw_iload_n C 0 dX9_prepare_4 rfl rfl ?_
  refine gw_aload_n C 2 dX9_prepare_5 rfl rfl ?_
  refine gw_get C 0 4 in_X9_prepare_X9 dX9_prepare_6 lk_X9_prepare_21 rfl rfl (by decide) rfl rfl ?_
  refine gw_alen C 2 4 (2) dX9_prepare_9 rfl rfl rfl ?_
  refine gw_icmp_ge C 44 dX9_prepare_10 (by decide) (by omega) (by omega) (fun h124 => ?_) (fun h124 => ?_)
  · exact absurd h124 (by decide)
  refine gw_aload_n C 2 dX9_prepare_13 rfl rfl ?_
  refine gw_get C 0 4 in_X9_prepare_X9 dX9_prepare_14 lk_X9_prepare_21 rfl rfl (by decide) rfl rfl ?_
  refine gw_iload_n C 0 dX9_prepare_17 rfl rfl ?_
  refine gw_ald C (v := .ref (sa 20)) 2 4 dX9_prepare_18 rfl rfl (by decide) (by decide) rfl ?_
  refine gw_aload_n C 2 dX9_prepare_19 rfl rfl ?_
  refine gw_get C 0 1 in_X9_prepare_X9 dX9_prepare_20 lk_X9_prepare_9 rfl rfl (by decide) rfl rfl ?_
  refine gw_callUV (n := 1) (wr := [(sa 0, .inr (7, [.ref (sa 1), iN (4), iN (5), iN (2048), .ref (sa 2), .ref (sa 3), .null])), (sa 1, .inl (cI, 15, .inl (fun j => nI (Wy j)))), (sa 2, .inl (cF, 2, .inr (.inr (.inr (.inr (fq_ sa 2)))))), (sa 3, .inl (cI, 16 * 2, .inl (fun j => nI (Nm j)))), (sa 10, .inr (2, [iN (1), iN (2187), .ref (u0)])), (u0, .inl (cI, 13122, .inl (fun j => nI ((nx 0) j))))]) C (c_ln_pl12 (kl K) (kD K) cI cB cS cJ cF cG tt (sa 20) (nx 1) hln.2.1 hln.2.2) 0 rfl rfl rfl gX9_prepare_X2_learn_u92X8 rfl rfl (by decide +kernel) dX9_prepare_23 (by rw [hkR]; decide) (by rw [hrc, hrs]; decide) [4] [0, 1, 2, 3, 5, 6] rfl rfl rfl rfl (by decide) rfl (Nat.le_of_ble_eq_true rfl) rfl (fun u1 hu1 => ?_)
  refine gw_ws (ws2 := [(sa 0, .inr (7, [.ref (sa 1), iN (4), iN (5), iN (2048), .ref (sa 2), .ref (sa 3), .null])), (sa 1, .inl (cI, 15, .inl (fun j => nI (Wy j)))), (sa 2, .inl (cF, 2, .inr (.inr (.inr (.inr (fq_ sa 2)))))), (sa 3, .inl (cI, 16 * 2, .inl (fun j => nI (Nm j)))), (sa 10, .inr (2, [iN (1), iN (2187), .ref (u0)])), (u0, .inl (cI, 13122, .inl (fun j => nI ((nx 0) j)))), (sa 20, .inr (6, [iN (0), iN (495), .ref (u1), iN (2), iN (12)])), (u1, .inl (cI, 2970, .inl (fun j => nI ((nx 1) j))))]) rfl ?_
  refine gw_iload_n C 1 dX9_prepare_26 rfl rfl ?_
  refine gw_aload_n C 2 dX9_prepare_27 rfl rfl ?_
  refine gw_get C 0 4 in_X9_prepare_X9 dX9_prepare_28 lk_X9_prepare_21 rfl rfl (by decide) rfl rfl ?_
  refine gw_iload_n C 0 dX9_prepare_31 rfl rfl ?_
  refine gw_ald C (v := .ref (sa 20)) 2 4 dX9_prepare_32 rfl rfl (by decide) (by decide) rfl ?_
  refine gw_get C 6 1 in_X9_prepare_X8 dX9_prepare_33 lk_X9_prepare_86 rfl rfl (by decide) rfl rfl ?_
  refine gw_imul C dX9_prepare_36 ?_
  refine gw_istore_n C (lv2 := [(1, iN (((1) * (2187)) * (495))), (2, iN (1)), (0, .ref (sa 0))]) dX9_prepare_37 rfl (by omega) rfl ?_
  refine gw_iinc C (v := nI (2)) (lv2 := [(2, iN (2)), (1, iN (((1) * (2187)) * (495))), (0, .ref (sa 0))]) 1 dX9_prepare_38 rfl (by decide) (by omega) rfl ?_
  refine gw_goto C 4 dX9_prepare_41 (by decide) ?_
  refine gw_iload_n C 0 dX9_prepare_4 rfl rfl ?_
  refine gw_aload_n C 2 dX9_prepare_5 rfl rfl ?_
  refine gw_get C 0 4 in_X9_prepare_X9 dX9_prepare_6 lk_X9_prepare_21 rfl rfl (by decide) rfl rfl ?_
  refine gw_alen C 2 4 (2) dX9_prepare_9 rfl rfl rfl ?_
  refine gw_icmp_ge C 44 dX9_prepare_10 (by decide) (by omega) (by omega) (fun h125 => ?_) (fun h125 => ?_)
  rotate_left
  · exact absurd h125 (by decide)
  refine gw_aload_n C 2 dX9_prepare_44 rfl rfl ?_
  refine gw_iload_n C 1 dX9_prepare_45 rfl rfl ?_
  refine gw_bipush C 15 dX9_prepare_46 (by decide) ?_
  refine gw_iadd C dX9_prepare_48 ?_
  refine gw_bipush C 16 dX9_prepare_49 (by decide) ?_
  refine gw_idiv C dX9_prepare_51 (by omega) (by omega) (by omega) ?_
  refine gw_newa C 3 dX9_prepare_52 rfl (by decide +kernel) rfl (fun _ _ h => h) (a0 := (67661, .inr (.inl (fun _ => 0)))) (fun _ => rfl) (by decide) (by decide) (by omega) (by omega) (fun nr => ?_)
  rw [wd0]
  refine gw_ws (ws2 := [(sa 0, .inr (7, [.ref (sa 1), iN (4), iN (5), iN (2048), .ref (sa 2), .ref (sa 3), .null])), (sa 1, .inl (cI, 15, .inl (fun j => nI (Wy j)))), (sa 2, .inl (cF, 2, .inr (.inr (.inr (.inr (fq_ sa 2)))))), (sa 3, .inl (cI, 16 * 2, .inl (fun j => nI (Nm j)))), (sa 10, .inr (2, [iN (1), iN (2187), .ref (u0)])), (u0, .inl (cI, 13122, .inl (fun j => nI ((nx 0) j)))), (sa 20, .inr (6, [iN (0), iN (495), .ref (u1), iN (2), iN (12)])), (u1, .inl (cI, 2970, .inl (fun j => nI ((nx 1) j)))), (nr, .inl (cJ, 67661, .inr (.inl (fun j => lN ((wd (fun _ => 0)) j)))))]) rfl ?_
  refine gw_put C (ty := (.array .long)) (ws2 := [(sa 0, .inr (7, [.ref (sa 1), iN (4), iN (5), iN (2048), .ref (sa 2), .ref (sa 3), .ref (nr)])), (sa 1, .inl (cI, 15, .inl (fun j => nI (Wy j)))), (sa 2, .inl (cF, 2, .inr (.inr (.inr (.inr (fq_ sa 2)))))), (sa 3, .inl (cI, 16 * 2, .inl (fun j => nI (Nm j)))), (sa 10, .inr (2, [iN (1), iN (2187), .ref (u0)])), (u0, .inl (cI, 13122, .inl (fun j => nI ((nx 0) j)))), (sa 20, .inr (6, [iN (0), iN (495), .ref (u1), iN (2), iN (12)])), (u1, .inl (cI, 2970, .inl (fun j => nI ((nx 1) j)))), (nr, .inl (cJ, 67661, .inr (.inl (fun j => lN ((wd (fun _ => 0)) j)))))]) 0 6 tyX9 tyX9_ok nmX9 in_X9_prepare_X9 dX9_prepare_54 lk_X9_prepare_36 rfl rfl (by decide) rfl rfl (by decide +kernel) rfl rfl (Nat.le_of_ble_eq_true rfl) rfl ?_
  refine gw_aload_n C 2 dX9_prepare_57 rfl rfl ?_
  refine gw_perm (ws2 := sg_ws cI cF ((fun j => if j = 4 then nr else if j = 11 then u0 else if j = 21 then u1 else sa j)) 2 4 5 2048 (.ref (((fun j => if j = 4 then nr else if j = 11 then u0 else if j = 21 then u1 else sa j)) 4)) (Wy) (Nm) ((((fun j => if j = 4 then nr else if j = 11 then u0 else if j = 21 then u1 else sa j)) 4, .inl (cJ, 67661, .inr (.inl (fun j => lN (wd (fun _ => 0) j))))) :: fl1_ws cI ((fun j => if j = 4 then nr else if j = 11 then u0 else if j = 21 then u1 else sa j)) (sc) nx)) [0, 1, 2, 3, 8, 4, 5, 6, 7] rfl (by decide) trivial ?_
  refine gw_allVV (n := 0) C (c_sfg (kl K) (kD K) cI cB cS cJ cF cG tt (fun j => if j = 4 then nr else if j = 11 then u0 else if j = 21 then u1 else sa j) 2 4 5 2048 67661 sz1 nx (fl1_ws cI (fun j => if j = 4 then nr else if j = 11 then u0 else if j = 21 then u1 else sa j) sc nx) Wy (fun qa Nm g Q d hd => c_stateAt12 (kl K) (kD K) cI cB cS cJ cF cG tt (fun j => if j = 4 then nr else if j = 11 then u0 else if j = 21 then u1 else sa j) Wy Nm _ sc nx _ _ d hd) (fun qa Nm g Q d fc hd hf h => c_advance12 (kl K) (kD K) cI cB cS cJ cF cG tt (fun j => if j = 4 then nr else if j = 11 then u0 else if j = 21 then u1 else sa j) Wy Nm _ sc nx _ _ d fc hd hf (h 0 (by decide)) (h 1 (by decide))) (fun qa Nm g Q s hs => c_showState1 (kl K) (kD K) cI cB cS cJ cF cG tt (fun j => if j = 4 then nr else if j = 11 then u0 else if j = 21 then u1 else sa j) Wy Nm _ sc nx _ _ s hs) (by decide) (by decide) (by decide) (by decide) (by decide) sz1_pos hnx sv_lt1 Nm E (by decide) (by decide) hsf.1 hsf.2.1 hsf.2.2.1 hsf.2.2.2.1 hsf.2.2.2.2) 0 rfl rfl rfl gX9_prepare_X9_spreadFromGoal rfl (by decide +kernel) dX9_prepare_58 (by rw [hkR]; decide) (by rw [hrc, hrs]; decide) rfl (Nat.le_of_ble_eq_true rfl) rfl (fun z hz => ?_)
  exact ret ((fun j => if j = 4 then nr else if j = 11 then u0 else if j = 21 then u1 else sa j), sc, z) dX9_prepare_61 ⟨rfl, rfl, (fun h => absurd h (by decide))⟩ rfl (by decide) (by decide)
set_option maxHeartbeats 4000000 in
set_option maxRecDepth 100000 in
theorem c_prepare2 (l : Launch) (D : va_G) (cI cB cS cJ cF cG : ClassId) (tt : Nat → Nat) (sa : Nat → Nat) (Wy Nm : Nat → Nat) (sc nx : Nat → Nat → Nat) (E : Nat) (hsc : sc_ok 2 sc) (hln : ln2 nx) (hnx : nxP nx sz2 2) (hsf : sfP nx sz2 2 2 7 4096 1838 E) : gw_CV (S := (Nat → Nat) × (Nat → Nat → Nat) × (Nat → Nat)) l yX9_prepare wsX9_prepare 4 100 10 8926 D (mo_ty cI cB cS cJ cF cG) (zs tt) (sg_ws cI cF sa 2 2 7 4096 (.null) (Wy) (Nm) (fu2_ws cI sa (sc))) [.ref (sa 0)] (fun u => u.1 0 = sa 0 ∧ u.1 1 = sa 1 ∧ sc_ok 2 u.2.1) (fun u => sg_ws cI cF (u.1) 2 2 7 4096 (.ref ((u.1) 4)) (Wy) (u.2.2) (((u.1) 4, .inl (cJ, 1838, .inr (.inl (fun j => lN (wd ((sf_ nx sz2 2 2 7 4096 E).1) j))))) :: fl2_ws cI (u.1) (u.2.1) nx)) := by
  refine gw_CV.of (cc := cX9_prepare) (maxL := 3) (zs_ok tt) (by decide) rfl (Nat.le_of_ble_eq_true rfl) ?_
  intro K C hkl hkn hkR hkD hmn ret
  have C : gw_x K cX9_prepare RX9 wsX9_prepare (mo_ty cI cB cS cJ cF cG) (zs tt) := C
  subst hkl hkD
  have hrc : (kR K).cells = 10 := by rw [hkR]
  have hrs : (kR K).slots = 8926 := by rw [hkR]
  refine gw_iconst C 1 dX9_prepare_0 (by decide) ?_
  refine gw_istore_n C (lv2 := [(1, iN (1)), (0, .ref (sa 0))]) dX9_prepare_1 rfl (by omega) rfl ?_
  refine gw_iconst C 0 dX9_prepare_2 (by decide) ?_
  refine gw_istore_n C (lv2 := [(2, iN (0)), (1, iN (1)), (0, .ref (sa 0))]) dX9_prepare_3 rfl (by omega) rfl ?_
  refine gw_iload_n C 0 dX9_prepare_4 rfl rfl ?_
  refine gw_aload_n C 2 dX9_prepare_5 rfl rfl ?_
  refine gw_get C 0 4 in_X9_prepare_X9 dX9_prepare_6 lk_X9_prepare_21 rfl rfl (by decide) rfl rfl ?_
  refine gw_alen C 2 4 (2) dX9_prepare_9 rfl rfl rfl ?_
  refine gw_icmp_ge C 44 dX9_prepare_10 (by decide) (by omega) (by omega) (fun h126 => ?_) (fun h126 => ?_)
  · exact absurd h126 (by decide)
  refine gw_aload_n C 2 dX9_prepare_13 rfl rfl ?_
  refine gw_get C 0 4 in_X9_prepare_X9 dX9_prepare_14 lk_X9_prepare_21 rfl rfl (by decide) rfl rfl ?_
  refine gw_iload_n C 0 dX9_prepare_17 rfl rfl ?_
  refine gw_ald C (v := .ref (sa 10)) 2 4 dX9_prepare_18 rfl rfl (by decide) (by decide) rfl ?_
  refine gw_aload_n C 2 dX9_prepare_19 rfl rfl ?_
  refine gw_get C 0 1 in_X9_prepare_X9 dX9_prepare_20 lk_X9_prepare_9 rfl rfl (by decide) rfl rfl ?_
  refine gw_callUV (n := 1) (wr := [(sa 0, .inr (7, [.ref (sa 1), iN (2), iN (7), iN (4096), .ref (sa 2), .ref (sa 3), .null])), (sa 1, .inl (cI, 15, .inl (fun j => nI (Wy j)))), (sa 2, .inl (cF, 2, .inr (.inr (.inr (.inr (fq_ sa 2)))))), (sa 3, .inl (cI, 16 * 2, .inl (fun j => nI (Nm j)))), (sa 20, .inr (6, [iN (0), iN (70), .null, iN (0), iN (8)]))]) C (c_ln_pa (kl K) (kD K) cI cB cS cJ cF cG tt (sa 10) (sa 12) (sa 13) (sa 14) (sc 0) (sc 1) (sc 2) (hsc rfl).1 (hsc rfl).2 (nx 0) hln.1.1 hln.1.2) 0 rfl rfl rfl gX9_prepare_X2_learn_u92X6 rfl rfl (by decide +kernel) dX9_prepare_23 (by rw [hkR]; decide) (by rw [hrc, hrs]; decide) [4, 5, 6, 7] [0, 1, 2, 3, 8] rfl rfl rfl rfl (by decide) rfl (Nat.le_of_ble_eq_true rfl) rfl (fun u0 hu0 => ?_)
  refine gw_ws (ws2 := [(sa 0, .inr (7, [.ref (sa 1), iN (2), iN (7), iN (4096), .ref (sa 2), .ref (sa 3), .null])), (sa 1, .inl (cI, 15, .inl (fun j => nI (Wy j)))), (sa 2, .inl (cF, 2, .inr (.inr (.inr (.inr (fq_ sa 2)))))), (sa 3, .inl (cI, 16 * 2, .inl (fun j => nI (Nm j)))), (sa 20, .inr (6, [iN (0), iN (70), .null, iN (0), iN (8)])), (sa 10, .inr (4, [iN (1), iN (420), .ref (u0.1), .ref (sa 12), .ref (sa 13), .ref (sa 14)])), (sa 12, .inl (cI, 8, .inl (fun j => nI ((u0.2.1) j)))), (sa 13, .inl (cI, 8, .inl (fun j => nI ((u0.2.2.1) j)))), (sa 14, .inl (cI, 4, .inl (fun j => nI ((u0.2.2.2) j)))), (u0.1, .inl (cI, 2520, .inl (fun j => nI ((nx 0) j))))]) rfl ?_
  refine gw_iload_n C 1 dX9_prepare_26 rfl rfl ?_
  refine gw_aload_n C 2 dX9_prepare_27 rfl rfl ?_
  refine gw_get C 0 4 in_X9_prepare_X9 dX9_prepare_28 lk_X9_prepare_21 rfl rfl (by decide) rfl rfl ?_
  refine gw_iload_n C 0 dX9_prepare_31 rfl rfl ?_
  refine gw_ald C (v := .ref (sa 10)) 2 4 dX9_prepare_32 rfl rfl (by decide) (by decide) rfl ?_
  refine gw_get C 5 1 in_X9_prepare_X6 dX9_prepare_33 lk_X9_prepare_86 rfl rfl (by decide) rfl rfl ?_
  refine gw_imul C dX9_prepare_36 ?_
  refine gw_istore_n C (lv2 := [(1, iN ((1) * (420))), (2, iN (0)), (0, .ref (sa 0))]) dX9_prepare_37 rfl (by omega) rfl ?_
  refine gw_iinc C (v := nI (1)) (lv2 := [(2, iN (1)), (1, iN ((1) * (420))), (0, .ref (sa 0))]) 1 dX9_prepare_38 rfl (by decide) (by omega) rfl ?_
  refine gw_goto C 4 dX9_prepare_41 (by decide) ?_
  refine gw_iload_n C 0 dX9_prepare_4 rfl rfl ?_
  refine gw_aload_n C 2 dX9_prepare_5 rfl rfl ?_
  refine gw_get C 0 4 in_X9_prepare_X9 dX9_prepare_6 lk_X9_prepare_21 rfl rfl (by decide) rfl rfl ?_
  refine gw_alen C 2 4 (2) dX9_prepare_9 rfl rfl rfl ?_
  refine gw_icmp_ge C 44 dX9_prepare_10 (by decide) (by omega) (by omega) (fun h127 => ?_) (fun h127 => ?_)
  · exact absurd h127 (by decide)
  refine gw_aload_n C 2 dX9_prepare_13 rfl rfl ?_
  refine gw_get C 0 4 in_X9_prepare_X9 dX9_prepare_14 lk_X9_prepare_21 rfl rfl (by decide) rfl rfl ?_
  refine gw_iload_n C 0 dX9_prepare_17 rfl rfl ?_
  refine gw_ald C (v := .ref (sa 20)) 2 4 dX9_prepare_18 rfl rfl (by decide) (by decide) rfl ?_
  refine gw_aload_n C 2 dX9_prepare_19 rfl rfl ?_
  refine gw_get C 0 1 in_X9_prepare_X9 dX9_prepare_20 lk_X9_prepare_9 rfl rfl (by decide) rfl rfl ?_
  refine gw_callUV (n := 1) (wr := [(sa 0, .inr (7, [.ref (sa 1), iN (2), iN (7), iN (4096), .ref (sa 2), .ref (sa 3), .null])), (sa 1, .inl (cI, 15, .inl (fun j => nI (Wy j)))), (sa 2, .inl (cF, 2, .inr (.inr (.inr (.inr (fq_ sa 2)))))), (sa 3, .inl (cI, 16 * 2, .inl (fun j => nI (Nm j)))), (sa 10, .inr (4, [iN (1), iN (420), .ref (u0.1), .ref (sa 12), .ref (sa 13), .ref (sa 14)])), (sa 12, .inl (cI, 8, .inl (fun j => nI ((u0.2.1) j)))), (sa 13, .inl (cI, 8, .inl (fun j => nI ((u0.2.2.1) j)))), (sa 14, .inl (cI, 4, .inl (fun j => nI ((u0.2.2.2) j)))), (u0.1, .inl (cI, 2520, .inl (fun j => nI ((nx 0) j))))]) C (c_ln_pl8 (kl K) (kD K) cI cB cS cJ cF cG tt (sa 20) (nx 1) hln.2.1 hln.2.2) 0 rfl rfl rfl gX9_prepare_X2_learn_u92X8 rfl rfl (by decide +kernel) dX9_prepare_23 (by rw [hkR]; decide) (by rw [hrc, hrs]; decide) [4] [0, 1, 2, 3, 5, 6, 7, 8, 9] rfl rfl rfl rfl (by decide) rfl (Nat.le_of_ble_eq_true rfl) rfl (fun u1 hu1 => ?_)
  refine gw_ws (ws2 := [(sa 0, .inr (7, [.ref (sa 1), iN (2), iN (7), iN (4096), .ref (sa 2), .ref (sa 3), .null])), (sa 1, .inl (cI, 15, .inl (fun j => nI (Wy j)))), (sa 2, .inl (cF, 2, .inr (.inr (.inr (.inr (fq_ sa 2)))))), (sa 3, .inl (cI, 16 * 2, .inl (fun j => nI (Nm j)))), (sa 10, .inr (4, [iN (1), iN (420), .ref (u0.1), .ref (sa 12), .ref (sa 13), .ref (sa 14)])), (sa 12, .inl (cI, 8, .inl (fun j => nI ((u0.2.1) j)))), (sa 13, .inl (cI, 8, .inl (fun j => nI ((u0.2.2.1) j)))), (sa 14, .inl (cI, 4, .inl (fun j => nI ((u0.2.2.2) j)))), (u0.1, .inl (cI, 2520, .inl (fun j => nI ((nx 0) j)))), (sa 20, .inr (6, [iN (0), iN (70), .ref (u1), iN (0), iN (8)])), (u1, .inl (cI, 420, .inl (fun j => nI ((nx 1) j))))]) rfl ?_
  refine gw_iload_n C 1 dX9_prepare_26 rfl rfl ?_
  refine gw_aload_n C 2 dX9_prepare_27 rfl rfl ?_
  refine gw_get C 0 4 in_X9_prepare_X9 dX9_prepare_28 lk_X9_prepare_21 rfl rfl (by decide) rfl rfl ?_
  refine gw_iload_n C 0 dX9_prepare_31 rfl rfl ?_
  refine gw_ald C (v := .ref (sa 20)) 2 4 dX9_prepare_32 rfl rfl (by decide) (by decide) rfl ?_
  refine gw_get C 9 1 in_X9_prepare_X8 dX9_prepare_33 lk_X9_prepare_86 rfl rfl (by decide) rfl rfl ?_
  refine gw_imul C dX9_prepare_36 ?_
  refine gw_istore_n C (lv2 := [(1, iN (((1) * (420)) * (70))), (2, iN (1)), (0, .ref (sa 0))]) dX9_prepare_37 rfl (by omega) rfl ?_
  refine gw_iinc C (v := nI (2)) (lv2 := [(2, iN (2)), (1, iN (((1) * (420)) * (70))), (0, .ref (sa 0))]) 1 dX9_prepare_38 rfl (by decide) (by omega) rfl ?_
  refine gw_goto C 4 dX9_prepare_41 (by decide) ?_
  refine gw_iload_n C 0 dX9_prepare_4 rfl rfl ?_
  refine gw_aload_n C 2 dX9_prepare_5 rfl rfl ?_
  refine gw_get C 0 4 in_X9_prepare_X9 dX9_prepare_6 lk_X9_prepare_21 rfl rfl (by decide) rfl rfl ?_
  refine gw_alen C 2 4 (2) dX9_prepare_9 rfl rfl rfl ?_
  refine gw_icmp_ge C 44 dX9_prepare_10 (by decide) (by omega) (by omega) (fun h128 => ?_) (fun h128 => ?_)
  rotate_left
  · exact absurd h128 (by decide)
  refine gw_aload_n C 2 dX9_prepare_44 rfl rfl ?_
  refine gw_iload_n C 1 dX9_prepare_45 rfl rfl ?_
  refine gw_bipush C 15 dX9_prepare_46 (by decide) ?_
  refine gw_iadd C dX9_prepare_48 ?_
  refine gw_bipush C 16 dX9_prepare_49 (by decide) ?_
  refine gw_idiv C dX9_prepare_51 (by omega) (by omega) (by omega) ?_
  refine gw_newa C 3 dX9_prepare_52 rfl (by decide +kernel) rfl (fun _ _ h => h) (a0 := (1838, .inr (.inl (fun _ => 0)))) (fun _ => rfl) (by decide) (by decide) (by omega) (by omega) (fun nr => ?_)
  rw [wd0]
  refine gw_ws (ws2 := [(sa 0, .inr (7, [.ref (sa 1), iN (2), iN (7), iN (4096), .ref (sa 2), .ref (sa 3), .null])), (sa 1, .inl (cI, 15, .inl (fun j => nI (Wy j)))), (sa 2, .inl (cF, 2, .inr (.inr (.inr (.inr (fq_ sa 2)))))), (sa 3, .inl (cI, 16 * 2, .inl (fun j => nI (Nm j)))), (sa 10, .inr (4, [iN (1), iN (420), .ref (u0.1), .ref (sa 12), .ref (sa 13), .ref (sa 14)])), (sa 12, .inl (cI, 8, .inl (fun j => nI ((u0.2.1) j)))), (sa 13, .inl (cI, 8, .inl (fun j => nI ((u0.2.2.1) j)))), (sa 14, .inl (cI, 4, .inl (fun j => nI ((u0.2.2.2) j)))), (u0.1, .inl (cI, 2520, .inl (fun j => nI ((nx 0) j)))), (sa 20, .inr (6, [iN (0), iN (70), .ref (u1), iN (0), iN (8)])), (u1, .inl (cI, 420, .inl (fun j => nI ((nx 1) j)))), (nr, .inl (cJ, 1838, .inr (.inl (fun j => lN ((wd (fun _ => 0)) j)))))]) rfl ?_
  refine gw_put C (ty := (.array .long)) (ws2 := [(sa 0, .inr (7, [.ref (sa 1), iN (2), iN (7), iN (4096), .ref (sa 2), .ref (sa 3), .ref (nr)])), (sa 1, .inl (cI, 15, .inl (fun j => nI (Wy j)))), (sa 2, .inl (cF, 2, .inr (.inr (.inr (.inr (fq_ sa 2)))))), (sa 3, .inl (cI, 16 * 2, .inl (fun j => nI (Nm j)))), (sa 10, .inr (4, [iN (1), iN (420), .ref (u0.1), .ref (sa 12), .ref (sa 13), .ref (sa 14)])), (sa 12, .inl (cI, 8, .inl (fun j => nI ((u0.2.1) j)))), (sa 13, .inl (cI, 8, .inl (fun j => nI ((u0.2.2.1) j)))), (sa 14, .inl (cI, 4, .inl (fun j => nI ((u0.2.2.2) j)))), (u0.1, .inl (cI, 2520, .inl (fun j => nI ((nx 0) j)))), (sa 20, .inr (6, [iN (0), iN (70), .ref (u1), iN (0), iN (8)])), (u1, .inl (cI, 420, .inl (fun j => nI ((nx 1) j)))), (nr, .inl (cJ, 1838, .inr (.inl (fun j => lN ((wd (fun _ => 0)) j)))))]) 0 6 tyX9 tyX9_ok nmX9 in_X9_prepare_X9 dX9_prepare_54 lk_X9_prepare_36 rfl rfl (by decide) rfl rfl (by decide +kernel) rfl rfl (Nat.le_of_ble_eq_true rfl) rfl ?_
  refine gw_aload_n C 2 dX9_prepare_57 rfl rfl ?_
  refine gw_perm (ws2 := sg_ws cI cF ((fun j => if j = 4 then nr else if j = 11 then u0.1 else if j = 21 then u1 else sa j)) 2 2 7 4096 (.ref (((fun j => if j = 4 then nr else if j = 11 then u0.1 else if j = 21 then u1 else sa j)) 4)) (Wy) (Nm) ((((fun j => if j = 4 then nr else if j = 11 then u0.1 else if j = 21 then u1 else sa j)) 4, .inl (cJ, 1838, .inr (.inl (fun j => lN (wd (fun _ => 0) j))))) :: fl2_ws cI ((fun j => if j = 4 then nr else if j = 11 then u0.1 else if j = 21 then u1 else sa j)) ((fun i => if i = 0 then u0.2.1 else if i = 1 then u0.2.2.1 else if i = 2 then u0.2.2.2 else sc i)) nx)) [0, 1, 2, 3, 11, 4, 5, 6, 7, 8, 9, 10] rfl (by decide) trivial ?_
  refine gw_allVV (n := 0) C (c_sfg (kl K) (kD K) cI cB cS cJ cF cG tt (fun j => if j = 4 then nr else if j = 11 then u0.1 else if j = 21 then u1 else sa j) 2 2 7 4096 1838 sz2 nx (fl2_ws cI (fun j => if j = 4 then nr else if j = 11 then u0.1 else if j = 21 then u1 else sa j) (fun i => if i = 0 then u0.2.1 else if i = 1 then u0.2.2.1 else if i = 2 then u0.2.2.2 else sc i) nx) Wy (fun qa Nm g Q d hd => c_stateAt22 (kl K) (kD K) cI cB cS cJ cF cG tt (fun j => if j = 4 then nr else if j = 11 then u0.1 else if j = 21 then u1 else sa j) Wy Nm _ (fun i => if i = 0 then u0.2.1 else if i = 1 then u0.2.2.1 else if i = 2 then u0.2.2.2 else sc i) nx _ _ d hd) (fun qa Nm g Q d fc hd hf h => c_advance22 (kl K) (kD K) cI cB cS cJ cF cG tt (fun j => if j = 4 then nr else if j = 11 then u0.1 else if j = 21 then u1 else sa j) Wy Nm _ (fun i => if i = 0 then u0.2.1 else if i = 1 then u0.2.2.1 else if i = 2 then u0.2.2.2 else sc i) nx _ _ d fc hd hf (h 0 (by decide)) (h 1 (by decide))) (fun qa Nm g Q s hs => c_showState2 (kl K) (kD K) cI cB cS cJ cF cG tt (fun j => if j = 4 then nr else if j = 11 then u0.1 else if j = 21 then u1 else sa j) Wy Nm _ (fun i => if i = 0 then u0.2.1 else if i = 1 then u0.2.2.1 else if i = 2 then u0.2.2.2 else sc i) nx _ _ s hs) (by decide) (by decide) (by decide) (by decide) (by decide) sz2_pos hnx sv_lt2 Nm E (by decide) (by decide) hsf.1 hsf.2.1 hsf.2.2.1 hsf.2.2.2.1 hsf.2.2.2.2) 0 rfl rfl rfl gX9_prepare_X9_spreadFromGoal rfl (by decide +kernel) dX9_prepare_58 (by rw [hkR]; decide) (by rw [hrc, hrs]; decide) rfl (Nat.le_of_ble_eq_true rfl) rfl (fun z hz => ?_)
  exact ret ((fun j => if j = 4 then nr else if j = 11 then u0.1 else if j = 21 then u1 else sa j), (fun i => if i = 0 then u0.2.1 else if i = 1 then u0.2.2.1 else if i = 2 then u0.2.2.2 else sc i), z) dX9_prepare_61 ⟨rfl, rfl, (fun _ => ⟨hu0.1, hu0.2⟩)⟩ rfl (by decide) (by decide)
set_option maxHeartbeats 4000000 in
set_option maxRecDepth 100000 in
theorem c_prepare3 (l : Launch) (D : va_G) (cI cB cS cJ cF cG : ClassId) (tt : Nat → Nat) (sa : Nat → Nat) (Wy Nm : Nat → Nat) (sc nx : Nat → Nat → Nat) (E : Nat) (hsc : sc_ok 3 sc) (hln : ln3 nx) (hnx : nxP nx sz3 4) (hsf : sfP nx sz3 4 0 7 10240 82944 E) : gw_CV (S := (Nat → Nat) × (Nat → Nat → Nat) × (Nat → Nat)) l yX9_prepare wsX9_prepare 4 100 18 94304 D (mo_ty cI cB cS cJ cF cG) (zs tt) (sg_ws cI cF sa 4 0 7 10240 (.null) (Wy) (Nm) (fu3_ws cI sa (sc))) [.ref (sa 0)] (fun u => u.1 0 = sa 0 ∧ u.1 1 = sa 1 ∧ sc_ok 3 u.2.1) (fun u => sg_ws cI cF (u.1) 4 0 7 10240 (.ref ((u.1) 4)) (Wy) (u.2.2) (((u.1) 4, .inl (cJ, 82944, .inr (.inl (fun j => lN (wd ((sf_ nx sz3 4 0 7 10240 E).1) j))))) :: fl3_ws cI (u.1) (u.2.1) nx)) := by
  refine gw_CV.of (cc := cX9_prepare) (maxL := 3) (zs_ok tt) (by decide) rfl (Nat.le_of_ble_eq_true rfl) ?_
  intro K C hkl hkn hkR hkD hmn ret
  have C : gw_x K cX9_prepare RX9 wsX9_prepare (mo_ty cI cB cS cJ cF cG) (zs tt) := C
  subst hkl hkD
  have hrc : (kR K).cells = 18 := by rw [hkR]
  have hrs : (kR K).slots = 94304 := by rw [hkR]
  refine gw_iconst C 1 dX9_prepare_0 (by decide) ?_
  refine gw_istore_n C (lv2 := [(1, iN (1)), (0, .ref (sa 0))]) dX9_prepare_1 rfl (by omega) rfl ?_
  refine gw_iconst C 0 dX9_prepare_2 (by decide) ?_
  refine gw_istore_n C (lv2 := [(2, iN (0)), (1, iN (1)), (0, .ref (sa 0))]) dX9_prepare_3 rfl (by omega) rfl ?_
  refine gw_iload_n C 0 dX9_prepare_4 rfl rfl ?_
  refine gw_aload_n C 2 dX9_prepare_5 rfl rfl ?_
  refine gw_get C 0 4 in_X9_prepare_X9 dX9_prepare_6 lk_X9_prepare_21 rfl rfl (by decide) rfl rfl ?_
  refine gw_alen C 2 4 (4) dX9_prepare_9 rfl rfl rfl ?_
  refine gw_icmp_ge C 44 dX9_prepare_10 (by decide) (by omega) (by omega) (fun h129 => ?_) (fun h129 => ?_)
  · exact absurd h129 (by decide)
  refine gw_aload_n C 2 dX9_prepare_13 rfl rfl ?_
  refine gw_get C 0 4 in_X9_prepare_X9 dX9_prepare_14 lk_X9_prepare_21 rfl rfl (by decide) rfl rfl ?_
  refine gw_iload_n C 0 dX9_prepare_17 rfl rfl ?_
  refine gw_ald C (v := .ref (sa 10)) 2 4 dX9_prepare_18 rfl rfl (by decide) (by decide) rfl ?_
  refine gw_aload_n C 2 dX9_prepare_19 rfl rfl ?_
  refine gw_get C 0 1 in_X9_prepare_X9 dX9_prepare_20 lk_X9_prepare_9 rfl rfl (by decide) rfl rfl ?_
  refine gw_callUV (n := 1) (wr := [(sa 0, .inr (7, [.ref (sa 1), iN (0), iN (7), iN (10240), .ref (sa 2), .ref (sa 3), .null])), (sa 1, .inl (cI, 15, .inl (fun j => nI (Wy j)))), (sa 2, .inl (cF, 4, .inr (.inr (.inr (.inr (fq_ sa 4)))))), (sa 3, .inl (cI, 16 * 4, .inl (fun j => nI (Nm j)))), (sa 20, .inr (3, [iN (0), iN (24), .null, iN (0), .ref (sa 22)])), (sa 22, .inl (cI, 4, .inl (fun j => nI ((sc 1) j)))), (sa 30, .inr (3, [iN (0), iN (24), .null, iN (4), .ref (sa 32)])), (sa 32, .inl (cI, 4, .inl (fun j => nI ((sc 2) j)))), (sa 40, .inr (3, [iN (0), iN (24), .null, iN (8), .ref (sa 42)])), (sa 42, .inl (cI, 4, .inl (fun j => nI ((sc 3) j))))]) C (c_ln_co (kl K) (kD K) cI cB cS cJ cF cG tt (sa 10) (sa 12) (sc 0) (nx 0) hln.1.1 hln.1.2) 0 rfl rfl rfl gX9_prepare_X2_learn_u92X0 rfl rfl (by decide +kernel) dX9_prepare_23 (by rw [hkR]; decide) (by rw [hrc, hrs]; decide) [4, 5] [0, 1, 2, 3, 6, 7, 8, 9, 10, 11] rfl rfl rfl rfl (by decide) rfl (Nat.le_of_ble_eq_true rfl) rfl (fun u0 hu0 => ?_)
  refine gw_ws (ws2 := [(sa 0, .inr (7, [.ref (sa 1), iN (0), iN (7), iN (10240), .ref (sa 2), .ref (sa 3), .null])), (sa 1, .inl (cI, 15, .inl (fun j => nI (Wy j)))), (sa 2, .inl (cF, 4, .inr (.inr (.inr (.inr (fq_ sa 4)))))), (sa 3, .inl (cI, 16 * 4, .inl (fun j => nI (Nm j)))), (sa 20, .inr (3, [iN (0), iN (24), .null, iN (0), .ref (sa 22)])), (sa 22, .inl (cI, 4, .inl (fun j => nI ((sc 1) j)))), (sa 30, .inr (3, [iN (0), iN (24), .null, iN (4), .ref (sa 32)])), (sa 32, .inl (cI, 4, .inl (fun j => nI ((sc 2) j)))), (sa 40, .inr (3, [iN (0), iN (24), .null, iN (8), .ref (sa 42)])), (sa 42, .inl (cI, 4, .inl (fun j => nI ((sc 3) j)))), (sa 10, .inr (0, [iN (1), iN (96), .ref (u0.1), .ref (sa 12)])), (sa 12, .inl (cI, 4, .inl (fun j => nI ((u0.2) j)))), (u0.1, .inl (cI, 576, .inl (fun j => nI ((nx 0) j))))]) rfl ?_
  refine gw_iload_n C 1 dX9_prepare_26 rfl rfl ?_
  refine gw_aload_n C 2 dX9_prepare_27 rfl rfl ?_
  refine gw_get C 0 4 in_X9_prepare_X9 dX9_prepare_28 lk_X9_prepare_21 rfl rfl (by decide) rfl rfl ?_
  refine gw_iload_n C 0 dX9_prepare_31 rfl rfl ?_
  refine gw_ald C (v := .ref (sa 10)) 2 4 dX9_prepare_32 rfl rfl (by decide) (by decide) rfl ?_
  refine gw_get C 10 1 in_X9_prepare_X0 dX9_prepare_33 lk_X9_prepare_86 rfl rfl (by decide) rfl rfl ?_
  refine gw_imul C dX9_prepare_36 ?_
  refine gw_istore_n C (lv2 := [(1, iN ((1) * (96))), (2, iN (0)), (0, .ref (sa 0))]) dX9_prepare_37 rfl (by omega) rfl ?_
  refine gw_iinc C (v := nI (1)) (lv2 := [(2, iN (1)), (1, iN ((1) * (96))), (0, .ref (sa 0))]) 1 dX9_prepare_38 rfl (by decide) (by omega) rfl ?_
  refine gw_goto C 4 dX9_prepare_41 (by decide) ?_
  refine gw_iload_n C 0 dX9_prepare_4 rfl rfl ?_
  refine gw_aload_n C 2 dX9_prepare_5 rfl rfl ?_
  refine gw_get C 0 4 in_X9_prepare_X9 dX9_prepare_6 lk_X9_prepare_21 rfl rfl (by decide) rfl rfl ?_
  refine gw_alen C 2 4 (4) dX9_prepare_9 rfl rfl rfl ?_
  refine gw_icmp_ge C 44 dX9_prepare_10 (by decide) (by omega) (by omega) (fun h130 => ?_) (fun h130 => ?_)
  · exact absurd h130 (by decide)
  refine gw_aload_n C 2 dX9_prepare_13 rfl rfl ?_
  refine gw_get C 0 4 in_X9_prepare_X9 dX9_prepare_14 lk_X9_prepare_21 rfl rfl (by decide) rfl rfl ?_
  refine gw_iload_n C 0 dX9_prepare_17 rfl rfl ?_
  refine gw_ald C (v := .ref (sa 20)) 2 4 dX9_prepare_18 rfl rfl (by decide) (by decide) rfl ?_
  refine gw_aload_n C 2 dX9_prepare_19 rfl rfl ?_
  refine gw_get C 0 1 in_X9_prepare_X9 dX9_prepare_20 lk_X9_prepare_9 rfl rfl (by decide) rfl rfl ?_
  refine gw_callUV (n := 1) (wr := [(sa 0, .inr (7, [.ref (sa 1), iN (0), iN (7), iN (10240), .ref (sa 2), .ref (sa 3), .null])), (sa 1, .inl (cI, 15, .inl (fun j => nI (Wy j)))), (sa 2, .inl (cF, 4, .inr (.inr (.inr (.inr (fq_ sa 4)))))), (sa 3, .inl (cI, 16 * 4, .inl (fun j => nI (Nm j)))), (sa 30, .inr (3, [iN (0), iN (24), .null, iN (4), .ref (sa 32)])), (sa 32, .inl (cI, 4, .inl (fun j => nI ((sc 2) j)))), (sa 40, .inr (3, [iN (0), iN (24), .null, iN (8), .ref (sa 42)])), (sa 42, .inl (cI, 4, .inl (fun j => nI ((sc 3) j)))), (sa 10, .inr (0, [iN (1), iN (96), .ref (u0.1), .ref (sa 12)])), (sa 12, .inl (cI, 4, .inl (fun j => nI ((u0.2) j)))), (u0.1, .inl (cI, 576, .inl (fun j => nI ((nx 0) j))))]) C (c_ln_or0 (kl K) (kD K) cI cB cS cJ cF cG tt (sa 20) (sa 22) (sc 1) (nx 1) hln.2.1.1 hln.2.1.2) 0 rfl rfl rfl gX9_prepare_X2_learn_u92X5 rfl rfl (by decide +kernel) dX9_prepare_23 (by rw [hkR]; decide) (by rw [hrc, hrs]; decide) [4, 5] [0, 1, 2, 3, 6, 7, 8, 9, 10, 11, 12] rfl rfl rfl rfl (by decide) rfl (Nat.le_of_ble_eq_true rfl) rfl (fun u1 hu1 => ?_)
  refine gw_ws (ws2 := [(sa 0, .inr (7, [.ref (sa 1), iN (0), iN (7), iN (10240), .ref (sa 2), .ref (sa 3), .null])), (sa 1, .inl (cI, 15, .inl (fun j => nI (Wy j)))), (sa 2, .inl (cF, 4, .inr (.inr (.inr (.inr (fq_ sa 4)))))), (sa 3, .inl (cI, 16 * 4, .inl (fun j => nI (Nm j)))), (sa 30, .inr (3, [iN (0), iN (24), .null, iN (4), .ref (sa 32)])), (sa 32, .inl (cI, 4, .inl (fun j => nI ((sc 2) j)))), (sa 40, .inr (3, [iN (0), iN (24), .null, iN (8), .ref (sa 42)])), (sa 42, .inl (cI, 4, .inl (fun j => nI ((sc 3) j)))), (sa 10, .inr (0, [iN (1), iN (96), .ref (u0.1), .ref (sa 12)])), (sa 12, .inl (cI, 4, .inl (fun j => nI ((u0.2) j)))), (u0.1, .inl (cI, 576, .inl (fun j => nI ((nx 0) j)))), (sa 20, .inr (3, [iN (0), iN (24), .ref (u1.1), iN (0), .ref (sa 22)])), (sa 22, .inl (cI, 4, .inl (fun j => nI ((u1.2) j)))), (u1.1, .inl (cI, 144, .inl (fun j => nI ((nx 1) j))))]) rfl ?_
  refine gw_iload_n C 1 dX9_prepare_26 rfl rfl ?_
  refine gw_aload_n C 2 dX9_prepare_27 rfl rfl ?_
  refine gw_get C 0 4 in_X9_prepare_X9 dX9_prepare_28 lk_X9_prepare_21 rfl rfl (by decide) rfl rfl ?_
  refine gw_iload_n C 0 dX9_prepare_31 rfl rfl ?_
  refine gw_ald C (v := .ref (sa 20)) 2 4 dX9_prepare_32 rfl rfl (by decide) (by decide) rfl ?_
  refine gw_get C 11 1 in_X9_prepare_X5 dX9_prepare_33 lk_X9_prepare_86 rfl rfl (by decide) rfl rfl ?_
  refine gw_imul C dX9_prepare_36 ?_
  refine gw_istore_n C (lv2 := [(1, iN (((1) * (96)) * (24))), (2, iN (1)), (0, .ref (sa 0))]) dX9_prepare_37 rfl (by omega) rfl ?_
  refine gw_iinc C (v := nI (2)) (lv2 := [(2, iN (2)), (1, iN (((1) * (96)) * (24))), (0, .ref (sa 0))]) 1 dX9_prepare_38 rfl (by decide) (by omega) rfl ?_
  refine gw_goto C 4 dX9_prepare_41 (by decide) ?_
  refine gw_iload_n C 0 dX9_prepare_4 rfl rfl ?_
  refine gw_aload_n C 2 dX9_prepare_5 rfl rfl ?_
  refine gw_get C 0 4 in_X9_prepare_X9 dX9_prepare_6 lk_X9_prepare_21 rfl rfl (by decide) rfl rfl ?_
  refine gw_alen C 2 4 (4) dX9_prepare_9 rfl rfl rfl ?_
  refine gw_icmp_ge C 44 dX9_prepare_10 (by decide) (by omega) (by omega) (fun h131 => ?_) (fun h131 => ?_)
  · exact absurd h131 (by decide)
  refine gw_aload_n C 2 dX9_prepare_13 rfl rfl ?_
  refine gw_get C 0 4 in_X9_prepare_X9 dX9_prepare_14 lk_X9_prepare_21 rfl rfl (by decide) rfl rfl ?_
  refine gw_iload_n C 0 dX9_prepare_17 rfl rfl ?_
  refine gw_ald C (v := .ref (sa 30)) 2 4 dX9_prepare_18 rfl rfl (by decide) (by decide) rfl ?_
  refine gw_aload_n C 2 dX9_prepare_19 rfl rfl ?_
  refine gw_get C 0 1 in_X9_prepare_X9 dX9_prepare_20 lk_X9_prepare_9 rfl rfl (by decide) rfl rfl ?_
  refine gw_callUV (n := 1) (wr := [(sa 0, .inr (7, [.ref (sa 1), iN (0), iN (7), iN (10240), .ref (sa 2), .ref (sa 3), .null])), (sa 1, .inl (cI, 15, .inl (fun j => nI (Wy j)))), (sa 2, .inl (cF, 4, .inr (.inr (.inr (.inr (fq_ sa 4)))))), (sa 3, .inl (cI, 16 * 4, .inl (fun j => nI (Nm j)))), (sa 40, .inr (3, [iN (0), iN (24), .null, iN (8), .ref (sa 42)])), (sa 42, .inl (cI, 4, .inl (fun j => nI ((sc 3) j)))), (sa 10, .inr (0, [iN (1), iN (96), .ref (u0.1), .ref (sa 12)])), (sa 12, .inl (cI, 4, .inl (fun j => nI ((u0.2) j)))), (u0.1, .inl (cI, 576, .inl (fun j => nI ((nx 0) j)))), (sa 20, .inr (3, [iN (0), iN (24), .ref (u1.1), iN (0), .ref (sa 22)])), (sa 22, .inl (cI, 4, .inl (fun j => nI ((u1.2) j)))), (u1.1, .inl (cI, 144, .inl (fun j => nI ((nx 1) j))))]) C (c_ln_or1 (kl K) (kD K) cI cB cS cJ cF cG tt (sa 30) (sa 32) (sc 2) (nx 2) hln.2.2.1.1 hln.2.2.1.2) 0 rfl rfl rfl gX9_prepare_X2_learn_u92X5 rfl rfl (by decide +kernel) dX9_prepare_23 (by rw [hkR]; decide) (by rw [hrc, hrs]; decide) [4, 5] [0, 1, 2, 3, 6, 7, 8, 9, 10, 11, 12, 13] rfl rfl rfl rfl (by decide) rfl (Nat.le_of_ble_eq_true rfl) rfl (fun u2 hu2 => ?_)
  refine gw_ws (ws2 := [(sa 0, .inr (7, [.ref (sa 1), iN (0), iN (7), iN (10240), .ref (sa 2), .ref (sa 3), .null])), (sa 1, .inl (cI, 15, .inl (fun j => nI (Wy j)))), (sa 2, .inl (cF, 4, .inr (.inr (.inr (.inr (fq_ sa 4)))))), (sa 3, .inl (cI, 16 * 4, .inl (fun j => nI (Nm j)))), (sa 40, .inr (3, [iN (0), iN (24), .null, iN (8), .ref (sa 42)])), (sa 42, .inl (cI, 4, .inl (fun j => nI ((sc 3) j)))), (sa 10, .inr (0, [iN (1), iN (96), .ref (u0.1), .ref (sa 12)])), (sa 12, .inl (cI, 4, .inl (fun j => nI ((u0.2) j)))), (u0.1, .inl (cI, 576, .inl (fun j => nI ((nx 0) j)))), (sa 20, .inr (3, [iN (0), iN (24), .ref (u1.1), iN (0), .ref (sa 22)])), (sa 22, .inl (cI, 4, .inl (fun j => nI ((u1.2) j)))), (u1.1, .inl (cI, 144, .inl (fun j => nI ((nx 1) j)))), (sa 30, .inr (3, [iN (0), iN (24), .ref (u2.1), iN (4), .ref (sa 32)])), (sa 32, .inl (cI, 4, .inl (fun j => nI ((u2.2) j)))), (u2.1, .inl (cI, 144, .inl (fun j => nI ((nx 2) j))))]) rfl ?_
  refine gw_iload_n C 1 dX9_prepare_26 rfl rfl ?_
  refine gw_aload_n C 2 dX9_prepare_27 rfl rfl ?_
  refine gw_get C 0 4 in_X9_prepare_X9 dX9_prepare_28 lk_X9_prepare_21 rfl rfl (by decide) rfl rfl ?_
  refine gw_iload_n C 0 dX9_prepare_31 rfl rfl ?_
  refine gw_ald C (v := .ref (sa 30)) 2 4 dX9_prepare_32 rfl rfl (by decide) (by decide) rfl ?_
  refine gw_get C 12 1 in_X9_prepare_X5 dX9_prepare_33 lk_X9_prepare_86 rfl rfl (by decide) rfl rfl ?_
  refine gw_imul C dX9_prepare_36 ?_
  refine gw_istore_n C (lv2 := [(1, iN ((((1) * (96)) * (24)) * (24))), (2, iN (2)), (0, .ref (sa 0))]) dX9_prepare_37 rfl (by omega) rfl ?_
  refine gw_iinc C (v := nI (3)) (lv2 := [(2, iN (3)), (1, iN ((((1) * (96)) * (24)) * (24))), (0, .ref (sa 0))]) 1 dX9_prepare_38 rfl (by decide) (by omega) rfl ?_
  refine gw_goto C 4 dX9_prepare_41 (by decide) ?_
  refine gw_iload_n C 0 dX9_prepare_4 rfl rfl ?_
  refine gw_aload_n C 2 dX9_prepare_5 rfl rfl ?_
  refine gw_get C 0 4 in_X9_prepare_X9 dX9_prepare_6 lk_X9_prepare_21 rfl rfl (by decide) rfl rfl ?_
  refine gw_alen C 2 4 (4) dX9_prepare_9 rfl rfl rfl ?_
  refine gw_icmp_ge C 44 dX9_prepare_10 (by decide) (by omega) (by omega) (fun h132 => ?_) (fun h132 => ?_)
  · exact absurd h132 (by decide)
  refine gw_aload_n C 2 dX9_prepare_13 rfl rfl ?_
  refine gw_get C 0 4 in_X9_prepare_X9 dX9_prepare_14 lk_X9_prepare_21 rfl rfl (by decide) rfl rfl ?_
  refine gw_iload_n C 0 dX9_prepare_17 rfl rfl ?_
  refine gw_ald C (v := .ref (sa 40)) 2 4 dX9_prepare_18 rfl rfl (by decide) (by decide) rfl ?_
  refine gw_aload_n C 2 dX9_prepare_19 rfl rfl ?_
  refine gw_get C 0 1 in_X9_prepare_X9 dX9_prepare_20 lk_X9_prepare_9 rfl rfl (by decide) rfl rfl ?_
  refine gw_callUV (n := 1) (wr := [(sa 0, .inr (7, [.ref (sa 1), iN (0), iN (7), iN (10240), .ref (sa 2), .ref (sa 3), .null])), (sa 1, .inl (cI, 15, .inl (fun j => nI (Wy j)))), (sa 2, .inl (cF, 4, .inr (.inr (.inr (.inr (fq_ sa 4)))))), (sa 3, .inl (cI, 16 * 4, .inl (fun j => nI (Nm j)))), (sa 10, .inr (0, [iN (1), iN (96), .ref (u0.1), .ref (sa 12)])), (sa 12, .inl (cI, 4, .inl (fun j => nI ((u0.2) j)))), (u0.1, .inl (cI, 576, .inl (fun j => nI ((nx 0) j)))), (sa 20, .inr (3, [iN (0), iN (24), .ref (u1.1), iN (0), .ref (sa 22)])), (sa 22, .inl (cI, 4, .inl (fun j => nI ((u1.2) j)))), (u1.1, .inl (cI, 144, .inl (fun j => nI ((nx 1) j)))), (sa 30, .inr (3, [iN (0), iN (24), .ref (u2.1), iN (4), .ref (sa 32)])), (sa 32, .inl (cI, 4, .inl (fun j => nI ((u2.2) j)))), (u2.1, .inl (cI, 144, .inl (fun j => nI ((nx 2) j))))]) C (c_ln_or2 (kl K) (kD K) cI cB cS cJ cF cG tt (sa 40) (sa 42) (sc 3) (nx 3) hln.2.2.2.1 hln.2.2.2.2) 0 rfl rfl rfl gX9_prepare_X2_learn_u92X5 rfl rfl (by decide +kernel) dX9_prepare_23 (by rw [hkR]; decide) (by rw [hrc, hrs]; decide) [4, 5] [0, 1, 2, 3, 6, 7, 8, 9, 10, 11, 12, 13, 14] rfl rfl rfl rfl (by decide) rfl (Nat.le_of_ble_eq_true rfl) rfl (fun u3 hu3 => ?_)
  refine gw_ws (ws2 := [(sa 0, .inr (7, [.ref (sa 1), iN (0), iN (7), iN (10240), .ref (sa 2), .ref (sa 3), .null])), (sa 1, .inl (cI, 15, .inl (fun j => nI (Wy j)))), (sa 2, .inl (cF, 4, .inr (.inr (.inr (.inr (fq_ sa 4)))))), (sa 3, .inl (cI, 16 * 4, .inl (fun j => nI (Nm j)))), (sa 10, .inr (0, [iN (1), iN (96), .ref (u0.1), .ref (sa 12)])), (sa 12, .inl (cI, 4, .inl (fun j => nI ((u0.2) j)))), (u0.1, .inl (cI, 576, .inl (fun j => nI ((nx 0) j)))), (sa 20, .inr (3, [iN (0), iN (24), .ref (u1.1), iN (0), .ref (sa 22)])), (sa 22, .inl (cI, 4, .inl (fun j => nI ((u1.2) j)))), (u1.1, .inl (cI, 144, .inl (fun j => nI ((nx 1) j)))), (sa 30, .inr (3, [iN (0), iN (24), .ref (u2.1), iN (4), .ref (sa 32)])), (sa 32, .inl (cI, 4, .inl (fun j => nI ((u2.2) j)))), (u2.1, .inl (cI, 144, .inl (fun j => nI ((nx 2) j)))), (sa 40, .inr (3, [iN (0), iN (24), .ref (u3.1), iN (8), .ref (sa 42)])), (sa 42, .inl (cI, 4, .inl (fun j => nI ((u3.2) j)))), (u3.1, .inl (cI, 144, .inl (fun j => nI ((nx 3) j))))]) rfl ?_
  refine gw_iload_n C 1 dX9_prepare_26 rfl rfl ?_
  refine gw_aload_n C 2 dX9_prepare_27 rfl rfl ?_
  refine gw_get C 0 4 in_X9_prepare_X9 dX9_prepare_28 lk_X9_prepare_21 rfl rfl (by decide) rfl rfl ?_
  refine gw_iload_n C 0 dX9_prepare_31 rfl rfl ?_
  refine gw_ald C (v := .ref (sa 40)) 2 4 dX9_prepare_32 rfl rfl (by decide) (by decide) rfl ?_
  refine gw_get C 13 1 in_X9_prepare_X5 dX9_prepare_33 lk_X9_prepare_86 rfl rfl (by decide) rfl rfl ?_
  refine gw_imul C dX9_prepare_36 ?_
  refine gw_istore_n C (lv2 := [(1, iN (((((1) * (96)) * (24)) * (24)) * (24))), (2, iN (3)), (0, .ref (sa 0))]) dX9_prepare_37 rfl (by omega) rfl ?_
  refine gw_iinc C (v := nI (4)) (lv2 := [(2, iN (4)), (1, iN (((((1) * (96)) * (24)) * (24)) * (24))), (0, .ref (sa 0))]) 1 dX9_prepare_38 rfl (by decide) (by omega) rfl ?_
  refine gw_goto C 4 dX9_prepare_41 (by decide) ?_
  refine gw_iload_n C 0 dX9_prepare_4 rfl rfl ?_
  refine gw_aload_n C 2 dX9_prepare_5 rfl rfl ?_
  refine gw_get C 0 4 in_X9_prepare_X9 dX9_prepare_6 lk_X9_prepare_21 rfl rfl (by decide) rfl rfl ?_
  refine gw_alen C 2 4 (4) dX9_prepare_9 rfl rfl rfl ?_
  refine gw_icmp_ge C 44 dX9_prepare_10 (by decide) (by omega) (by omega) (fun h133 => ?_) (fun h133 => ?_)
  rotate_left
  · exact absurd h133 (by decide)
  refine gw_aload_n C 2 dX9_prepare_44 rfl rfl ?_
  refine gw_iload_n C 1 dX9_prepare_45 rfl rfl ?_
  refine gw_bipush C 15 dX9_prepare_46 (by decide) ?_
  refine gw_iadd C dX9_prepare_48 ?_
  refine gw_bipush C 16 dX9_prepare_49 (by decide) ?_
  refine gw_idiv C dX9_prepare_51 (by omega) (by omega) (by omega) ?_
  refine gw_newa C 3 dX9_prepare_52 rfl (by decide +kernel) rfl (fun _ _ h => h) (a0 := (82944, .inr (.inl (fun _ => 0)))) (fun _ => rfl) (by decide) (by decide) (by omega) (by omega) (fun nr => ?_)
  rw [wd0]
  refine gw_ws (ws2 := [(sa 0, .inr (7, [.ref (sa 1), iN (0), iN (7), iN (10240), .ref (sa 2), .ref (sa 3), .null])), (sa 1, .inl (cI, 15, .inl (fun j => nI (Wy j)))), (sa 2, .inl (cF, 4, .inr (.inr (.inr (.inr (fq_ sa 4)))))), (sa 3, .inl (cI, 16 * 4, .inl (fun j => nI (Nm j)))), (sa 10, .inr (0, [iN (1), iN (96), .ref (u0.1), .ref (sa 12)])), (sa 12, .inl (cI, 4, .inl (fun j => nI ((u0.2) j)))), (u0.1, .inl (cI, 576, .inl (fun j => nI ((nx 0) j)))), (sa 20, .inr (3, [iN (0), iN (24), .ref (u1.1), iN (0), .ref (sa 22)])), (sa 22, .inl (cI, 4, .inl (fun j => nI ((u1.2) j)))), (u1.1, .inl (cI, 144, .inl (fun j => nI ((nx 1) j)))), (sa 30, .inr (3, [iN (0), iN (24), .ref (u2.1), iN (4), .ref (sa 32)])), (sa 32, .inl (cI, 4, .inl (fun j => nI ((u2.2) j)))), (u2.1, .inl (cI, 144, .inl (fun j => nI ((nx 2) j)))), (sa 40, .inr (3, [iN (0), iN (24), .ref (u3.1), iN (8), .ref (sa 42)])), (sa 42, .inl (cI, 4, .inl (fun j => nI ((u3.2) j)))), (u3.1, .inl (cI, 144, .inl (fun j => nI ((nx 3) j)))), (nr, .inl (cJ, 82944, .inr (.inl (fun j => lN ((wd (fun _ => 0)) j)))))]) rfl ?_
  refine gw_put C (ty := (.array .long)) (ws2 := [(sa 0, .inr (7, [.ref (sa 1), iN (0), iN (7), iN (10240), .ref (sa 2), .ref (sa 3), .ref (nr)])), (sa 1, .inl (cI, 15, .inl (fun j => nI (Wy j)))), (sa 2, .inl (cF, 4, .inr (.inr (.inr (.inr (fq_ sa 4)))))), (sa 3, .inl (cI, 16 * 4, .inl (fun j => nI (Nm j)))), (sa 10, .inr (0, [iN (1), iN (96), .ref (u0.1), .ref (sa 12)])), (sa 12, .inl (cI, 4, .inl (fun j => nI ((u0.2) j)))), (u0.1, .inl (cI, 576, .inl (fun j => nI ((nx 0) j)))), (sa 20, .inr (3, [iN (0), iN (24), .ref (u1.1), iN (0), .ref (sa 22)])), (sa 22, .inl (cI, 4, .inl (fun j => nI ((u1.2) j)))), (u1.1, .inl (cI, 144, .inl (fun j => nI ((nx 1) j)))), (sa 30, .inr (3, [iN (0), iN (24), .ref (u2.1), iN (4), .ref (sa 32)])), (sa 32, .inl (cI, 4, .inl (fun j => nI ((u2.2) j)))), (u2.1, .inl (cI, 144, .inl (fun j => nI ((nx 2) j)))), (sa 40, .inr (3, [iN (0), iN (24), .ref (u3.1), iN (8), .ref (sa 42)])), (sa 42, .inl (cI, 4, .inl (fun j => nI ((u3.2) j)))), (u3.1, .inl (cI, 144, .inl (fun j => nI ((nx 3) j)))), (nr, .inl (cJ, 82944, .inr (.inl (fun j => lN ((wd (fun _ => 0)) j)))))]) 0 6 tyX9 tyX9_ok nmX9 in_X9_prepare_X9 dX9_prepare_54 lk_X9_prepare_36 rfl rfl (by decide) rfl rfl (by decide +kernel) rfl rfl (Nat.le_of_ble_eq_true rfl) rfl ?_
  refine gw_aload_n C 2 dX9_prepare_57 rfl rfl ?_
  refine gw_perm (ws2 := sg_ws cI cF ((fun j => if j = 4 then nr else if j = 11 then u0.1 else if j = 21 then u1.1 else if j = 31 then u2.1 else if j = 41 then u3.1 else sa j)) 4 0 7 10240 (.ref (((fun j => if j = 4 then nr else if j = 11 then u0.1 else if j = 21 then u1.1 else if j = 31 then u2.1 else if j = 41 then u3.1 else sa j)) 4)) (Wy) (Nm) ((((fun j => if j = 4 then nr else if j = 11 then u0.1 else if j = 21 then u1.1 else if j = 31 then u2.1 else if j = 41 then u3.1 else sa j)) 4, .inl (cJ, 82944, .inr (.inl (fun j => lN (wd (fun _ => 0) j))))) :: fl3_ws cI ((fun j => if j = 4 then nr else if j = 11 then u0.1 else if j = 21 then u1.1 else if j = 31 then u2.1 else if j = 41 then u3.1 else sa j)) ((fun i => if i = 0 then u0.2 else if i = 1 then u1.2 else if i = 2 then u2.2 else if i = 3 then u3.2 else sc i)) nx)) [0, 1, 2, 3, 16, 4, 5, 6, 7, 8, 9, 10, 11, 12, 13, 14, 15] rfl (by decide) trivial ?_
  refine gw_allVV (n := 0) C (c_sfg (kl K) (kD K) cI cB cS cJ cF cG tt (fun j => if j = 4 then nr else if j = 11 then u0.1 else if j = 21 then u1.1 else if j = 31 then u2.1 else if j = 41 then u3.1 else sa j) 4 0 7 10240 82944 sz3 nx (fl3_ws cI (fun j => if j = 4 then nr else if j = 11 then u0.1 else if j = 21 then u1.1 else if j = 31 then u2.1 else if j = 41 then u3.1 else sa j) (fun i => if i = 0 then u0.2 else if i = 1 then u1.2 else if i = 2 then u2.2 else if i = 3 then u3.2 else sc i) nx) Wy (fun qa Nm g Q d hd => c_stateAt32 (kl K) (kD K) cI cB cS cJ cF cG tt (fun j => if j = 4 then nr else if j = 11 then u0.1 else if j = 21 then u1.1 else if j = 31 then u2.1 else if j = 41 then u3.1 else sa j) Wy Nm _ (fun i => if i = 0 then u0.2 else if i = 1 then u1.2 else if i = 2 then u2.2 else if i = 3 then u3.2 else sc i) nx _ _ d hd) (fun qa Nm g Q d fc hd hf h => c_advance32 (kl K) (kD K) cI cB cS cJ cF cG tt (fun j => if j = 4 then nr else if j = 11 then u0.1 else if j = 21 then u1.1 else if j = 31 then u2.1 else if j = 41 then u3.1 else sa j) Wy Nm _ (fun i => if i = 0 then u0.2 else if i = 1 then u1.2 else if i = 2 then u2.2 else if i = 3 then u3.2 else sc i) nx _ _ d fc hd hf (h 0 (by decide)) (h 1 (by decide)) (h 2 (by decide)) (h 3 (by decide))) (fun qa Nm g Q s hs => c_showState3 (kl K) (kD K) cI cB cS cJ cF cG tt (fun j => if j = 4 then nr else if j = 11 then u0.1 else if j = 21 then u1.1 else if j = 31 then u2.1 else if j = 41 then u3.1 else sa j) Wy Nm _ (fun i => if i = 0 then u0.2 else if i = 1 then u1.2 else if i = 2 then u2.2 else if i = 3 then u3.2 else sc i) nx _ _ s hs) (by decide) (by decide) (by decide) (by decide) (by decide) sz3_pos hnx sv_lt3 Nm E (by decide) (by decide) hsf.1 hsf.2.1 hsf.2.2.1 hsf.2.2.2.1 hsf.2.2.2.2) 0 rfl rfl rfl gX9_prepare_X9_spreadFromGoal rfl (by decide +kernel) dX9_prepare_58 (by rw [hkR]; decide) (by rw [hrc, hrs]; decide) rfl (Nat.le_of_ble_eq_true rfl) rfl (fun z hz => ?_)
  exact ret ((fun j => if j = 4 then nr else if j = 11 then u0.1 else if j = 21 then u1.1 else if j = 31 then u2.1 else if j = 41 then u3.1 else sa j), (fun i => if i = 0 then u0.2 else if i = 1 then u1.2 else if i = 2 then u2.2 else if i = 3 then u3.2 else sc i), z) dX9_prepare_61 ⟨rfl, rfl, (fun h => absurd h (by decide))⟩ rfl (by decide) (by decide)
