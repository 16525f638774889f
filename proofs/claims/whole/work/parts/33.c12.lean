theorem in_X9_advance_X0 : ∀ w ∈ wsX00, w ∈ wsX9_advance := fun _ h => List.mem_cons_of_mem _ (List.mem_append_left _ (List.mem_append_left _ (List.mem_append_left _ (List.mem_append_left _ (List.mem_append_right _ (h))))))
theorem in_X9_advance_X3 : ∀ w ∈ wsX30, w ∈ wsX9_advance := fun _ h => List.mem_cons_of_mem _ (List.mem_append_left _ (List.mem_append_left _ (List.mem_append_left _ (List.mem_append_right _ (h)))))
theorem in_X9_advance_X5 : ∀ w ∈ wsX50, w ∈ wsX9_advance := fun _ h => List.mem_cons_of_mem _ (List.mem_append_left _ (List.mem_append_left _ (List.mem_append_right _ (h))))
theorem in_X9_advance_X6 : ∀ w ∈ wsX60, w ∈ wsX9_advance := fun _ h => List.mem_cons_of_mem _ (List.mem_append_left _ (List.mem_append_right _ (h)))
theorem in_X9_advance_X8 : ∀ w ∈ wsX80, w ∈ wsX9_advance := fun _ h => List.mem_cons_of_mem _ (List.mem_append_right _ (h))
theorem in_X9_advance_X9 : ∀ w ∈ wsX90, w ∈ wsX9_advance := fun _ h => List.mem_cons_of_mem _ (List.mem_append_left _ (List.mem_append_left _ (List.mem_append_left _ (List.mem_append_left _ (List.mem_append_left _ (List.mem_append_right _ (h)))))))
theorem in_X9_showState_X0 : ∀ w ∈ wsX00, w ∈ wsX9_showState := fun _ h => List.mem_cons_of_mem _ (List.mem_append_left _ (List.mem_append_left _ (List.mem_append_left _ (List.mem_append_left _ (List.mem_append_right _ (h))))))
theorem in_X9_showState_X3 : ∀ w ∈ wsX30, w ∈ wsX9_showState := fun _ h => List.mem_cons_of_mem _ (List.mem_append_left _ (List.mem_append_left _ (List.mem_append_left _ (List.mem_append_right _ (h)))))
theorem in_X9_showState_X5 : ∀ w ∈ wsX50, w ∈ wsX9_showState := fun _ h => List.mem_cons_of_mem _ (List.mem_append_left _ (List.mem_append_left _ (List.mem_append_right _ (h))))
theorem in_X9_showState_X6 : ∀ w ∈ wsX60, w ∈ wsX9_showState := fun _ h => List.mem_cons_of_mem _ (List.mem_append_left _ (List.mem_append_right _ (h)))
theorem in_X9_showState_X8 : ∀ w ∈ wsX80, w ∈ wsX9_showState := fun _ h => List.mem_cons_of_mem _ (List.mem_append_right _ (h))
theorem in_X9_showState_X9 : ∀ w ∈ wsX90, w ∈ wsX9_showState := fun _ h => List.mem_cons_of_mem _ (List.mem_append_left _ (List.mem_append_left _ (List.mem_append_left _ (List.mem_append_left _ (List.mem_append_left _ (List.mem_append_right _ (h)))))))
theorem in_X9_stateAt_X0 : ∀ w ∈ wsX00, w ∈ wsX9_stateAt := fun _ h => List.mem_cons_of_mem _ (List.mem_append_left _ (List.mem_append_left _ (List.mem_append_left _ (List.mem_append_left _ (List.mem_append_right _ (h))))))
theorem in_X9_stateAt_X3 : ∀ w ∈ wsX30, w ∈ wsX9_stateAt := fun _ h => List.mem_cons_of_mem _ (List.mem_append_left _ (List.mem_append_left _ (List.mem_append_left _ (List.mem_append_right _ (h)))))
theorem in_X9_stateAt_X5 : ∀ w ∈ wsX50, w ∈ wsX9_stateAt := fun _ h => List.mem_cons_of_mem _ (List.mem_append_left _ (List.mem_append_left _ (List.mem_append_right _ (h))))
theorem in_X9_stateAt_X6 : ∀ w ∈ wsX60, w ∈ wsX9_stateAt := fun _ h => List.mem_cons_of_mem _ (List.mem_append_left _ (List.mem_append_right _ (h)))
theorem in_X9_stateAt_X8 : ∀ w ∈ wsX80, w ∈ wsX9_stateAt := fun _ h => List.mem_cons_of_mem _ (List.mem_append_right _ (h))
theorem in_X9_stateAt_X9 : ∀ w ∈ wsX90, w ∈ wsX9_stateAt := fun _ h => List.mem_cons_of_mem _ (List.mem_append_left _ (List.mem_append_left _ (List.mem_append_left _ (List.mem_append_left _ (List.mem_append_left _ (List.mem_append_right _ (h)))))))
theorem lk_X9_advance_21 : Cond.fieldLink RX9 21 "StageCube$Stage" "features" "[LStageCube$Feature;" ∈ wsX9_advance := by decide +kernel
theorem lk_X9_advance_25 : Cond.fieldLink RX9 25 "StageCube$Stage" "numbers" "[I" ∈ wsX9_advance := by decide +kernel
theorem lk_X9_advance_83 : Cond.fieldLink RX9 83 "StageCube$Feature" "next" "[I" ∈ wsX9_advance := by decide +kernel
theorem lk_X9_showState_21 : Cond.fieldLink RX9 21 "StageCube$Stage" "features" "[LStageCube$Feature;" ∈ wsX9_showState := by decide +kernel
theorem lk_X9_showState_25 : Cond.fieldLink RX9 25 "StageCube$Stage" "numbers" "[I" ∈ wsX9_showState := by decide +kernel
theorem lk_X9_showState_86 : Cond.fieldLink RX9 86 "StageCube$Feature" "size" "I" ∈ wsX9_showState := by decide +kernel
theorem lk_X9_stateAt_21 : Cond.fieldLink RX9 21 "StageCube$Stage" "features" "[LStageCube$Feature;" ∈ wsX9_stateAt := by decide +kernel
theorem lk_X9_stateAt_25 : Cond.fieldLink RX9 25 "StageCube$Stage" "numbers" "[I" ∈ wsX9_stateAt := by decide +kernel
theorem lk_X9_stateAt_86 : Cond.fieldLink RX9 86 "StageCube$Feature" "size" "I" ∈ wsX9_stateAt := by decide +kernel
def ad_ (nx : Nat → Nat → Nat) (b fc : Nat) (Nm : Nat → Nat) : Nat → Nat → Nat
  | 0 => Nm
  | i + 1 => up1 (ad_ nx b fc Nm i) (b + i) (nx i (6 * ad_ nx b fc Nm i (b + i) + fc))
theorem ad_fix (nx : Nat → Nat → Nat) (b fc : Nat) (Nm : Nat → Nat) : ∀ i j, b + i ≤ j ∨ j < b → ad_ nx b fc Nm i j = Nm j := by
  intro i
  induction i with
  | zero => intro j _; rfl
  | succ i ih =>
    intro j hj
    rw [ad_]
    simp only [up1]
    rw [if_neg (by omega), ih j (by omega)]
theorem ad_at (nx : Nat → Nat → Nat) (b fc : Nat) (Nm : Nat → Nat) : ∀ n i, i < n → ad_ nx b fc Nm n (b + i) = nx i (6 * Nm (b + i) + fc) := by
  intro n
  induction n with
  | zero => intro i h; exact absurd h (by omega)
  | succ n ih =>
    intro i hi
    rw [ad_]
    simp only [up1]
    by_cases e : i = n
    · subst e
      rw [if_pos rfl, ad_fix nx b fc Nm i _ (by omega)]
    · rw [if_neg (by omega), ih i (by omega)]
def sa_ (sz Nm : Nat → Nat) (b : Nat) : Nat → Nat
  | 0 => 0
  | i + 1 => sa_ sz Nm b i * sz i + Nm (b + i)
def ss_r (sz : Nat → Nat) (nf s : Nat) : Nat → Nat
  | 0 => s
  | t + 1 => ss_r sz nf s t / sz (nf - 1 - t)
def ss_N (sz : Nat → Nat) (nf s : Nat) (Nm : Nat → Nat) : Nat → Nat → Nat
  | 0 => Nm
  | t + 1 => up1 (ss_N sz nf s Nm t) (nf - 1 - t) (ss_r sz nf s t % sz (nf - 1 - t))
def sz0 (i : Nat) : Nat := 2048
def sz1 (i : Nat) : Nat := if i = 0 then 2187 else 495
def sz2 (i : Nat) : Nat := if i = 0 then 420 else 70
def sz3 (i : Nat) : Nat := if i = 0 then 96 else 24
set_option maxHeartbeats 4000000 in
set_option maxRecDepth 100000 in
theorem c_stateAt00 (l : Launch) (D : va_G) (cI cB cS cJ cF cG : ClassId) (tt : Nat → Nat) (sa : Nat → Nat) (Wy Nm : Nat → Nat) (nv : Value) (sc nx : Nat → Nat → Nat) (d : Nat) (hd : d ≤ 15) : gw_CI (S := Unit) l yX9_stateAt wsX9_stateAt 0 0 0 0 D (mo_ty cI cB cS cJ cF cG) (zs tt) (sg_ws cI cF sa 1 6 7 2048 (nv) (Wy) (Nm) (fu0_ws cI sa sc)) [.ref (sa 0), iN d] (fun r _ => r = nI (sa_ sz0 Nm (d * 1) 1)) (fun _ => sg_ws cI cF sa 1 6 7 2048 (nv) (Wy) (Nm) (fu0_ws cI sa sc)) := by
  refine gw_CI.of (cc := cX9_stateAt) (maxL := 5) (rt := .int) (zs_ok tt) (by decide) rfl (Nat.le_of_ble_eq_true rfl) ?_
  intro K C hkl hkn hkR hkD hmn ret
  have C : gw_x K cX9_stateAt RX9 wsX9_stateAt (mo_ty cI cB cS cJ cF cG) (zs tt) := C
  subst hkl hkD
  have hrc : (kR K).cells = 0 := by rw [hkR]
  have hrs : (kR K).slots = 0 := by rw [hkR]
  refine gw_iload_n C 1 dX9_stateAt_0 rfl rfl ?_
  refine gw_aload_n C 0 dX9_stateAt_1 rfl rfl ?_
  refine gw_get C 0 4 in_X9_stateAt_X9 dX9_stateAt_2 lk_X9_stateAt_21 rfl rfl (by decide) rfl rfl ?_
  refine gw_alen C 2 4 (1) dX9_stateAt_5 rfl rfl rfl ?_
  refine gw_imul C dX9_stateAt_6 ?_
  refine gw_istore_n C (lv2 := [(2, iN ((d) * (1))), (0, .ref (sa 0)), (1, iN (d))]) dX9_stateAt_7 rfl (by omega) rfl ?_
  refine gw_iconst C 0 dX9_stateAt_8 (by decide) ?_
  refine gw_istore_n C (lv2 := [(3, iN (0)), (2, iN ((d) * (1))), (0, .ref (sa 0)), (1, iN (d))]) dX9_stateAt_9 rfl (by omega) rfl ?_
  refine gw_iconst C 0 dX9_stateAt_10 (by decide) ?_
  refine gw_istore C (lv2 := [(4, iN (0)), (3, iN (0)), (2, iN ((d) * (1))), (0, .ref (sa 0)), (1, iN (d))]) dX9_stateAt_11 (by omega) rfl ?_
  refine gw_iload C 0 dX9_stateAt_13 rfl ?_
  refine gw_aload_n C 3 dX9_stateAt_15 rfl rfl ?_
  refine gw_get C 0 4 in_X9_stateAt_X9 dX9_stateAt_16 lk_X9_stateAt_21 rfl rfl (by decide) rfl rfl ?_
  refine gw_alen C 2 4 (1) dX9_stateAt_19 rfl rfl rfl ?_
  refine gw_icmp_ge C 52 dX9_stateAt_20 (by decide) (by omega) (by omega) (fun h67 => ?_) (fun h67 => ?_)
  · exact absurd h67 (by decide)
  refine gw_iload_n C 1 dX9_stateAt_23 rfl rfl ?_
  refine gw_aload_n C 3 dX9_stateAt_24 rfl rfl ?_
  refine gw_get C 0 4 in_X9_stateAt_X9 dX9_stateAt_25 lk_X9_stateAt_21 rfl rfl (by decide) rfl rfl ?_
  refine gw_iload C 0 dX9_stateAt_28 rfl ?_
  refine gw_ald C (v := .ref (sa 10)) 2 4 dX9_stateAt_30 rfl rfl (by decide) (by decide) rfl ?_
  refine gw_get C 4 1 in_X9_stateAt_X3 dX9_stateAt_31 lk_X9_stateAt_86 rfl rfl (by decide) rfl rfl ?_
  refine gw_imul C dX9_stateAt_34 ?_
  refine gw_aload_n C 3 dX9_stateAt_35 rfl rfl ?_
  refine gw_get C 0 5 in_X9_stateAt_X9 dX9_stateAt_36 lk_X9_stateAt_25 rfl rfl (by decide) rfl rfl ?_
  refine gw_iload_n C 2 dX9_stateAt_39 rfl rfl ?_
  refine gw_iload C 0 dX9_stateAt_40 rfl ?_
  refine gw_iadd C dX9_stateAt_42 ?_
  refine gw_ild C (v := nI (Nm (((d) * (1)) + (0)))) 3 0 dX9_stateAt_43 rfl rfl (by first | decide | omega) (by omega) rfl ?_
  refine gw_iadd C dX9_stateAt_44 ?_
  refine gw_istore_n C (lv2 := [(3, iN (((0) * (2048)) + (Nm (((d) * (1)) + (0))))), (4, iN (0)), (2, iN ((d) * (1))), (0, .ref (sa 0)), (1, iN (d))]) dX9_stateAt_45 rfl (by omega) rfl ?_
  refine gw_iinc C (v := nI (1)) (lv2 := [(4, iN (1)), (3, iN (((0) * (2048)) + (Nm (((d) * (1)) + (0))))), (2, iN ((d) * (1))), (0, .ref (sa 0)), (1, iN (d))]) 1 dX9_stateAt_46 rfl (by decide) (by omega) rfl ?_
  refine gw_goto C 13 dX9_stateAt_49 (by decide) ?_
  refine gw_iload C 0 dX9_stateAt_13 rfl ?_
  refine gw_aload_n C 3 dX9_stateAt_15 rfl rfl ?_
  refine gw_get C 0 4 in_X9_stateAt_X9 dX9_stateAt_16 lk_X9_stateAt_21 rfl rfl (by decide) rfl rfl ?_
  refine gw_alen C 2 4 (1) dX9_stateAt_19 rfl rfl rfl ?_
  refine gw_icmp_ge C 52 dX9_stateAt_20 (by decide) (by omega) (by omega) (fun h68 => ?_) (fun h68 => ?_)
  rotate_left
  · exact absurd h68 (by decide)
  refine gw_iload_n C 1 dX9_stateAt_52 rfl rfl ?_
  exact ret () dX9_stateAt_53 rfl rfl rfl (Nat.le_refl 0) (Nat.le_refl 0)
set_option maxHeartbeats 4000000 in
set_option maxRecDepth 100000 in
theorem c_stateAt01 (l : Launch) (D : va_G) (cI cB cS cJ cF cG : ClassId) (tt : Nat → Nat) (sa : Nat → Nat) (Wy Nm : Nat → Nat) (nv : Value) (sc nx : Nat → Nat → Nat) (x1 : Nat × va_E) (d : Nat) (hd : d ≤ 15) : gw_CI (S := Unit) l yX9_stateAt wsX9_stateAt 0 0 0 0 D (mo_ty cI cB cS cJ cF cG) (zs tt) (sg_ws cI cF sa 1 6 7 2048 (nv) (Wy) (Nm) (x1 :: fl0_ws cI sa sc nx)) [.ref (sa 0), iN d] (fun r _ => r = nI (sa_ sz0 Nm (d * 1) 1)) (fun _ => sg_ws cI cF sa 1 6 7 2048 (nv) (Wy) (Nm) (x1 :: fl0_ws cI sa sc nx)) := by
  refine gw_CI.of (cc := cX9_stateAt) (maxL := 5) (rt := .int) (zs_ok tt) (by decide) rfl (Nat.le_of_ble_eq_true rfl) ?_
  intro K C hkl hkn hkR hkD hmn ret
  have C : gw_x K cX9_stateAt RX9 wsX9_stateAt (mo_ty cI cB cS cJ cF cG) (zs tt) := C
  subst hkl hkD
  have hrc : (kR K).cells = 0 := by rw [hkR]
  have hrs : (kR K).slots = 0 := by rw [hkR]
  refine gw_iload_n C 1 dX9_stateAt_0 rfl rfl ?_
  refine gw_aload_n C 0 dX9_stateAt_1 rfl rfl ?_
  refine gw_get C 0 4 in_X9_stateAt_X9 dX9_stateAt_2 lk_X9_stateAt_21 rfl rfl (by decide) rfl rfl ?_
  refine gw_alen C 2 4 (1) dX9_stateAt_5 rfl rfl rfl ?_
  refine gw_imul C dX9_stateAt_6 ?_
  refine gw_istore_n C (lv2 := [(2, iN ((d) * (1))), (0, .ref (sa 0)), (1, iN (d))]) dX9_stateAt_7 rfl (by omega) rfl ?_
  refine gw_iconst C 0 dX9_stateAt_8 (by decide) ?_
  refine gw_istore_n C (lv2 := [(3, iN (0)), (2, iN ((d) * (1))), (0, .ref (sa 0)), (1, iN (d))]) dX9_stateAt_9 rfl (by omega) rfl ?_
  refine gw_iconst C 0 dX9_stateAt_10 (by decide) ?_
  refine gw_istore C (lv2 := [(4, iN (0)), (3, iN (0)), (2, iN ((d) * (1))), (0, .ref (sa 0)), (1, iN (d))]) dX9_stateAt_11 (by omega) rfl ?_
  refine gw_iload C 0 dX9_stateAt_13 rfl ?_
  refine gw_aload_n C 3 dX9_stateAt_15 rfl rfl ?_
  refine gw_get C 0 4 in_X9_stateAt_X9 dX9_stateAt_16 lk_X9_stateAt_21 rfl rfl (by decide) rfl rfl ?_
  refine gw_alen C 2 4 (1) dX9_stateAt_19 rfl rfl rfl ?_
  refine gw_icmp_ge C 52 dX9_stateAt_20 (by decide) (by omega) (by omega) (fun h69 => ?_) (fun h69 => ?_)
  · exact absurd h69 (by decide)
  refine gw_iload_n C 1 dX9_stateAt_23 rfl rfl ?_
  refine gw_aload_n C 3 dX9_stateAt_24 rfl rfl ?_
  refine gw_get C 0 4 in_X9_stateAt_X9 dX9_stateAt_25 lk_X9_stateAt_21 rfl rfl (by decide) rfl rfl ?_
  refine gw_iload C 0 dX9_stateAt_28 rfl ?_
  refine gw_ald C (v := .ref (sa 10)) 2 4 dX9_stateAt_30 rfl rfl (by decide) (by decide) rfl ?_
  refine gw_get C 5 1 in_X9_stateAt_X3 dX9_stateAt_31 lk_X9_stateAt_86 rfl rfl (by decide) rfl rfl ?_
  refine gw_imul C dX9_stateAt_34 ?_
  refine gw_aload_n C 3 dX9_stateAt_35 rfl rfl ?_
  refine gw_get C 0 5 in_X9_stateAt_X9 dX9_stateAt_36 lk_X9_stateAt_25 rfl rfl (by decide) rfl rfl ?_
  refine gw_iload_n C 2 dX9_stateAt_39 rfl rfl ?_
  refine gw_iload C 0 dX9_stateAt_40 rfl ?_
  refine gw_iadd C dX9_stateAt_42 ?_
  refine gw_ild C (v := nI (Nm (((d) * (1)) + (0)))) 3 0 dX9_stateAt_43 rfl rfl (by first | decide | omega) (by omega) rfl ?_
  refine gw_iadd C dX9_stateAt_44 ?_
  refine gw_istore_n C (lv2 := [(3, iN (((0) * (2048)) + (Nm (((d) * (1)) + (0))))), (4, iN (0)), (2, iN ((d) * (1))), (0, .ref (sa 0)), (1, iN (d))]) dX9_stateAt_45 rfl (by omega) rfl ?_
  refine gw_iinc C (v := nI (1)) (lv2 := [(4, iN (1)), (3, iN (((0) * (2048)) + (Nm (((d) * (1)) + (0))))), (2, iN ((d) * (1))), (0, .ref (sa 0)), (1, iN (d))]) 1 dX9_stateAt_46 rfl (by decide) (by omega) rfl ?_
  refine gw_goto C 13 dX9_stateAt_49 (by decide) ?_
  refine gw_iload C 0 dX9_stateAt_13 rfl ?_
  refine gw_aload_n C 3 dX9_stateAt_15 rfl rfl ?_
  refine gw_get C 0 4 in_X9_stateAt_X9 dX9_stateAt_16 lk_X9_stateAt_21 rfl rfl (by decide) rfl rfl ?_
  refine gw_alen C 2 4 (1) dX9_stateAt_19 rfl rfl rfl ?_
  refine gw_icmp_ge C 52 dX9_stateAt_20 (by decide) (by omega) (by omega) (fun h70 => ?_) (fun h70 => ?_)
  rotate_left
  · exact absurd h70 (by decide)
  refine gw_iload_n C 1 dX9_stateAt_52 rfl rfl ?_
  exact ret () dX9_stateAt_53 rfl rfl rfl (Nat.le_refl 0) (Nat.le_refl 0)
set_option maxHeartbeats 4000000 in
set_option maxRecDepth 100000 in
theorem c_advance01 (l : Launch) (D : va_G) (cI cB cS cJ cF cG : ClassId) (tt : Nat → Nat) (sa : Nat → Nat) (Wy Nm : Nat → Nat) (nv : Value) (sc nx : Nat → Nat → Nat) (x1 : Nat × va_E) (d fc : Nat) (hd : d ≤ 15) (hf : fc < 6) (h0 : Nm (d * 1 + 0) < 2048) : gw_CV (S := Unit) l yX9_advance wsX9_advance 0 0 0 0 D (mo_ty cI cB cS cJ cF cG) (zs tt) (sg_ws cI cF sa 1 6 7 2048 (nv) (Wy) (Nm) (x1 :: fl0_ws cI sa sc nx)) [.ref (sa 0), iN d, iN fc] (fun _ => True) (fun _ => sg_ws cI cF sa 1 6 7 2048 (nv) (Wy) (ad_ nx (d * 1) fc Nm 1) (x1 :: fl0_ws cI sa sc nx)) := by
  refine gw_CV.of (cc := cX9_advance) (maxL := 5) (zs_ok tt) (by decide) rfl (Nat.le_of_ble_eq_true rfl) ?_
  intro K C hkl hkn hkR hkD hmn ret
  have C : gw_x K cX9_advance RX9 wsX9_advance (mo_ty cI cB cS cJ cF cG) (zs tt) := C
  subst hkl hkD
  have hrc : (kR K).cells = 0 := by rw [hkR]
  have hrs : (kR K).slots = 0 := by rw [hkR]
  obtain ⟨b, eb⟩ : ∃ b, b = d * 1 := ⟨_, rfl⟩
  rw [← eb] at h0
  refine gw_iload_n C 1 dX9_advance_0 rfl rfl ?_
  refine gw_aload_n C 0 dX9_advance_1 rfl rfl ?_
  refine gw_get C 0 4 in_X9_advance_X9 dX9_advance_2 lk_X9_advance_21 rfl rfl (by decide) rfl rfl ?_
  refine gw_alen C 2 4 (1) dX9_advance_5 rfl rfl rfl ?_
  refine gw_imul C dX9_advance_6 ?_
  refine gw_istore_n C (lv2 := [(3, iN ((d) * (1))), (0, .ref (sa 0)), (1, iN (d)), (2, iN (fc))]) dX9_advance_7 rfl (by omega) rfl ?_
  refine gw_iconst C 0 dX9_advance_8 (by decide) ?_
  refine gw_istore C (lv2 := [(4, iN (0)), (3, iN ((d) * (1))), (0, .ref (sa 0)), (1, iN (d)), (2, iN (fc))]) dX9_advance_9 (by omega) rfl ?_
  rw [← eb]
  refine gw_iload C 0 dX9_advance_11 rfl ?_
  refine gw_aload_n C 2 dX9_advance_13 rfl rfl ?_
  refine gw_get C 0 4 in_X9_advance_X9 dX9_advance_14 lk_X9_advance_21 rfl rfl (by decide) rfl rfl ?_
  refine gw_alen C 2 4 (1) dX9_advance_17 rfl rfl rfl ?_
  refine gw_icmp_ge C 61 dX9_advance_18 (by decide) (by omega) (by omega) (fun h71 => ?_) (fun h71 => ?_)
  · exact absurd h71 (by decide)
  have f0 : ad_ nx b fc Nm 0 (b + 0) < 2048 := by rw [ad_fix nx b fc Nm 0 _ (by omega)]; exact h0
  refine gw_aload_n C 2 dX9_advance_21 rfl rfl ?_
  refine gw_get C 0 5 in_X9_advance_X9 dX9_advance_22 lk_X9_advance_25 rfl rfl (by decide) rfl rfl ?_
  refine gw_iload_n C 1 dX9_advance_25 rfl rfl ?_
  refine gw_iload C 0 dX9_advance_26 rfl ?_
  refine gw_iadd C dX9_advance_28 ?_
  refine gw_aload_n C 2 dX9_advance_29 rfl rfl ?_
  refine gw_get C 0 4 in_X9_advance_X9 dX9_advance_30 lk_X9_advance_21 rfl rfl (by decide) rfl rfl ?_
  refine gw_iload C 0 dX9_advance_33 rfl ?_
  refine gw_ald C (v := .ref (sa 10)) 2 4 dX9_advance_35 rfl rfl (by decide) (by decide) rfl ?_
  refine gw_get C 5 2 in_X9_advance_X3 dX9_advance_36 lk_X9_advance_83 rfl rfl (by decide) rfl rfl ?_
  refine gw_bipush C 6 dX9_advance_39 (by decide) ?_
  refine gw_aload_n C 2 dX9_advance_41 rfl rfl ?_
  refine gw_get C 0 5 in_X9_advance_X9 dX9_advance_42 lk_X9_advance_25 rfl rfl (by decide) rfl rfl ?_
  refine gw_iload_n C 1 dX9_advance_45 rfl rfl ?_
  refine gw_iload C 0 dX9_advance_46 rfl ?_
  refine gw_iadd C dX9_advance_48 ?_
  refine gw_ild C (v := nI (Nm ((b) + (0)))) 3 0 dX9_advance_49 rfl rfl (by first | decide | omega) (by omega) rfl ?_
  refine gw_imul C dX9_advance_50 ?_
  refine gw_iload_n C 4 dX9_advance_51 rfl rfl ?_
  refine gw_iadd C dX9_advance_52 ?_
  refine gw_ild C (v := nI ((nx 0) (((6) * (Nm ((b) + (0)))) + (fc)))) 6 0 dX9_advance_53 rfl rfl (by first | decide | omega) (by omega) rfl ?_
  refine gw_istN C (ws2 := [(sa 0, .inr (7, [.ref (sa 1), iN (6), iN (7), iN (2048), .ref (sa 2), .ref (sa 3), nv])), (sa 1, .inl (cI, 15, .inl (fun j => nI (Wy j)))), (sa 2, .inl (cF, 1, .inr (.inr (.inr (.inr (fq_ sa 1)))))), (sa 3, .inl (cI, 16 * 1, .inl (fun j => nI ((up1 Nm ((b) + (0)) ((nx 0) (((6) * (Nm ((b) + (0)))) + (fc)))) j)))), x1, (sa 10, .inr (2, [iN (0), iN (2048), .ref (sa 11)])), (sa 11, .inl (cI, 12288, .inl (fun j => nI ((nx 0) j))))]) 3 0 dX9_advance_54 rfl rfl (by first | decide | omega) (by omega) rfl ?_
  refine gw_iinc C (v := nI (1)) (lv2 := [(4, iN (1)), (3, iN (b)), (0, .ref (sa 0)), (1, iN (d)), (2, iN (fc))]) 0 dX9_advance_55 rfl (by decide) (by omega) rfl ?_
  refine gw_goto C 11 dX9_advance_58 (by decide) ?_
  refine gw_ws (ws2 := [(sa 0, .inr (7, [.ref (sa 1), iN (6), iN (7), iN (2048), .ref (sa 2), .ref (sa 3), nv])), (sa 1, .inl (cI, 15, .inl (fun j => nI (Wy j)))), (sa 2, .inl (cF, 1, .inr (.inr (.inr (.inr (fq_ sa 1)))))), (sa 3, .inl (cI, 16 * 1, .inl (fun j => nI ((ad_ nx b fc Nm 1) j)))), x1, (sa 10, .inr (2, [iN (0), iN (2048), .ref (sa 11)])), (sa 11, .inl (cI, 12288, .inl (fun j => nI ((nx 0) j))))]) rfl ?_
  refine gw_iload C 0 dX9_advance_11 rfl ?_
  refine gw_aload_n C 2 dX9_advance_13 rfl rfl ?_
  refine gw_get C 0 4 in_X9_advance_X9 dX9_advance_14 lk_X9_advance_21 rfl rfl (by decide) rfl rfl ?_
  refine gw_alen C 2 4 (1) dX9_advance_17 rfl rfl rfl ?_
  refine gw_icmp_ge C 61 dX9_advance_18 (by decide) (by omega) (by omega) (fun h72 => ?_) (fun h72 => ?_)
  rotate_left
  · exact absurd h72 (by decide)
  exact ret () dX9_advance_61 trivial (by rw [eb]; rfl) (Nat.le_refl 0) (Nat.le_refl 0)
set_option maxHeartbeats 4000000 in
set_option maxRecDepth 100000 in
theorem c_stateAt02 (l : Launch) (D : va_G) (cI cB cS cJ cF cG : ClassId) (tt : Nat → Nat) (sa : Nat → Nat) (Wy Nm : Nat → Nat) (nv : Value) (sc nx : Nat → Nat → Nat) (x1 : Nat × va_E) (x2 : Nat × va_E) (d : Nat) (hd : d ≤ 15) : gw_CI (S := Unit) l yX9_stateAt wsX9_stateAt 0 0 0 0 D (mo_ty cI cB cS cJ cF cG) (zs tt) (sg_ws cI cF sa 1 6 7 2048 (nv) (Wy) (Nm) (x1 :: x2 :: fl0_ws cI sa sc nx)) [.ref (sa 0), iN d] (fun r _ => r = nI (sa_ sz0 Nm (d * 1) 1)) (fun _ => sg_ws cI cF sa 1 6 7 2048 (nv) (Wy) (Nm) (x1 :: x2 :: fl0_ws cI sa sc nx)) := by
  refine gw_CI.of (cc := cX9_stateAt) (maxL := 5) (rt := .int) (zs_ok tt) (by decide) rfl (Nat.le_of_ble_eq_true rfl) ?_
  intro K C hkl hkn hkR hkD hmn ret
  have C : gw_x K cX9_stateAt RX9 wsX9_stateAt (mo_ty cI cB cS cJ cF cG) (zs tt) := C
  subst hkl hkD
  have hrc : (kR K).cells = 0 := by rw [hkR]
  have hrs : (kR K).slots = 0 := by rw [hkR]
  refine gw_iload_n C 1 dX9_stateAt_0 rfl rfl ?_
  refine gw_aload_n C 0 dX9_stateAt_1 rfl rfl ?_
  refine gw_get C 0 4 in_X9_stateAt_X9 dX9_stateAt_2 lk_X9_stateAt_21 rfl rfl (by decide) rfl rfl ?_
  refine gw_alen C 2 4 (1) dX9_stateAt_5 rfl rfl rfl ?_
  refine gw_imul C dX9_stateAt_6 ?_
  refine gw_istore_n C (lv2 := [(2, iN ((d) * (1))), (0, .ref (sa 0)), (1, iN (d))]) dX9_stateAt_7 rfl (by omega) rfl ?_
  refine gw_iconst C 0 dX9_stateAt_8 (by decide) ?_
  refine gw_istore_n C (lv2 := [(3, iN (0)), (2, iN ((d) * (1))), (0, .ref (sa 0)), (1, iN (d))]) dX9_stateAt_9 rfl (by omega) rfl ?_
  refine gw_iconst C 0 dX9_stateAt_10 (by decide) ?_
  refine gw_istore C (lv2 := [(4, iN (0)), (3, iN (0)), (2, iN ((d) * (1))), (0, .ref (sa 0)), (1, iN (d))]) dX9_stateAt_11 (by omega) rfl ?_
  refine gw_iload C 0 dX9_stateAt_13 rfl ?_
  refine gw_aload_n C 3 dX9_stateAt_15 rfl rfl ?_
  refine gw_get C 0 4 in_X9_stateAt_X9 dX9_stateAt_16 lk_X9_stateAt_21 rfl rfl (by decide) rfl rfl ?_
  refine gw_alen C 2 4 (1) dX9_stateAt_19 rfl rfl rfl ?_
  refine gw_icmp_ge C 52 dX9_stateAt_20 (by decide) (by omega) (by omega) (fun h73 => ?_) (fun h73 => ?_)
  · exact absurd h73 (by decide)
  refine gw_iload_n C 1 dX9_stateAt_23 rfl rfl ?_
  refine gw_aload_n C 3 dX9_stateAt_24 rfl rfl ?_
  refine gw_get C 0 4 in_X9_stateAt_X9 dX9_stateAt_25 lk_X9_stateAt_21 rfl rfl (by decide) rfl rfl ?_
  refine gw_iload C 0 dX9_stateAt_28 rfl ?_
  refine gw_ald C (v := .ref (sa 10)) 2 4 dX9_stateAt_30 rfl rfl (by decide) (by decide) rfl ?_
  refine gw_get C 6 1 in_X9_stateAt_X3 dX9_stateAt_31 lk_X9_stateAt_86 rfl rfl (by decide) rfl rfl ?_
  refine gw_imul C dX9_stateAt_34 ?_
  refine gw_aload_n C 3 dX9_stateAt_35 rfl rfl ?_
  refine gw_get C 0 5 in_X9_stateAt_X9 dX9_stateAt_36 lk_X9_stateAt_25 rfl rfl (by decide) rfl rfl ?_
  refine gw_iload_n C 2 dX9_stateAt_39 rfl rfl ?_
  refine gw_iload C 0 dX9_stateAt_40 rfl ?_
  refine gw_iadd C dX9_stateAt_42 ?_
  refine gw_ild C (v := nI (Nm (((d) * (1)) + (0)))) 3 0 dX9_stateAt_43 rfl rfl (by first | decide | omega) (by omega) rfl ?_
  refine gw_iadd C dX9_stateAt_44 ?_
  refine gw_istore_n C (lv2 := [(3, iN (((0) * (2048)) + (Nm (((d) * (1)) + (0))))), (4, iN (0)), (2, iN ((d) * (1))), (0, .ref (sa 0)), (1, iN (d))]) dX9_stateAt_45 rfl (by omega) rfl ?_
  refine gw_iinc C (v := nI (1)) (lv2 := [(4, iN (1)), (3, iN (((0) * (2048)) + (Nm (((d) * (1)) + (0))))), (2, iN ((d) * (1))), (0, .ref (sa 0)), (1, iN (d))]) 1 dX9_stateAt_46 rfl (by decide) (by omega) rfl ?_
  refine gw_goto C 13 dX9_stateAt_49 (by decide) ?_
  refine gw_iload C 0 dX9_stateAt_13 rfl ?_
  refine gw_aload_n C 3 dX9_stateAt_15 rfl rfl ?_
  refine gw_get C 0 4 in_X9_stateAt_X9 dX9_stateAt_16 lk_X9_stateAt_21 rfl rfl (by decide) rfl rfl ?_
  refine gw_alen C 2 4 (1) dX9_stateAt_19 rfl rfl rfl ?_
  refine gw_icmp_ge C 52 dX9_stateAt_20 (by decide) (by omega) (by omega) (fun h74 => ?_) (fun h74 => ?_)
  rotate_left
  · exact absurd h74 (by decide)
  refine gw_iload_n C 1 dX9_stateAt_52 rfl rfl ?_
  exact ret () dX9_stateAt_53 rfl rfl rfl (Nat.le_refl 0) (Nat.le_refl 0)
set_option maxHeartbeats 4000000 in
set_option maxRecDepth 100000 in
theorem c_advance02 (l : Launch) (D : va_G) (cI cB cS cJ cF cG : ClassId) (tt : Nat → Nat) (sa : Nat → Nat) (Wy Nm : Nat → Nat) (nv : Value) (sc nx : Nat → Nat → Nat) (x1 : Nat × va_E) (x2 : Nat × va_E) (d fc : Nat) (hd : d ≤ 15) (hf : fc < 6) (h0 : Nm (d * 1 + 0) < 2048) : gw_CV (S := Unit) l yX9_advance wsX9_advance 0 0 0 0 D (mo_ty cI cB cS cJ cF cG) (zs tt) (sg_ws cI cF sa 1 6 7 2048 (nv) (Wy) (Nm) (x1 :: x2 :: fl0_ws cI sa sc nx)) [.ref (sa 0), iN d, iN fc] (fun _ => True) (fun _ => sg_ws cI cF sa 1 6 7 2048 (nv) (Wy) (ad_ nx (d * 1) fc Nm 1) (x1 :: x2 :: fl0_ws cI sa sc nx)) := by
  refine gw_CV.of (cc := cX9_advance) (maxL := 5) (zs_ok tt) (by decide) rfl (Nat.le_of_ble_eq_true rfl) ?_
  intro K C hkl hkn hkR hkD hmn ret
  have C : gw_x K cX9_advance RX9 wsX9_advance (mo_ty cI cB cS cJ cF cG) (zs tt) := C
  subst hkl hkD
  have hrc : (kR K).cells = 0 := by rw [hkR]
  have hrs : (kR K).slots = 0 := by rw [hkR]
  obtain ⟨b, eb⟩ : ∃ b, b = d * 1 := ⟨_, rfl⟩
  rw [← eb] at h0
  refine gw_iload_n C 1 dX9_advance_0 rfl rfl ?_
  refine gw_aload_n C 0 dX9_advance_1 rfl rfl ?_
  refine gw_get C 0 4 in_X9_advance_X9 dX9_advance_2 lk_X9_advance_21 rfl rfl (by decide) rfl rfl ?_
  refine gw_alen C 2 4 (1) dX9_advance_5 rfl rfl rfl ?_
  refine gw_imul C dX9_advance_6 ?_
  refine gw_istore_n C (lv2 := [(3, iN ((d) * (1))), (0, .ref (sa 0)), (1, iN (d)), (2, iN (fc))]) dX9_advance_7 rfl (by omega) rfl ?_
  refine gw_iconst C 0 dX9_advance_8 (by decide) ?_
  refine gw_istore C (lv2 := [(4, iN (0)), (3, iN ((d) * (1))), (0, .ref (sa 0)), (1, iN (d)), (2, iN (fc))]) dX9_advance_9 (by omega) rfl ?_
  rw [← eb]
  refine gw_iload C 0 dX9_advance_11 rfl ?_
  refine gw_aload_n C 2 dX9_advance_13 rfl rfl ?_
  refine gw_get C 0 4 in_X9_advance_X9 dX9_advance_14 lk_X9_advance_21 rfl rfl (by decide) rfl rfl ?_
  refine gw_alen C 2 4 (1) dX9_advance_17 rfl rfl rfl ?_
  refine gw_icmp_ge C 61 dX9_advance_18 (by decide) (by omega) (by omega) (fun h75 => ?_) (fun h75 => ?_)
  · exact absurd h75 (by decide)
  have f0 : ad_ nx b fc Nm 0 (b + 0) < 2048 := by rw [ad_fix nx b fc Nm 0 _ (by omega)]; exact h0
  refine gw_aload_n C 2 dX9_advance_21 rfl rfl ?_
  refine gw_get C 0 5 in_X9_advance_X9 dX9_advance_22 lk_X9_advance_25 rfl rfl (by decide) rfl rfl ?_
  refine gw_iload_n C 1 dX9_advance_25 rfl rfl ?_
  refine gw_iload C 0 dX9_advance_26 rfl ?_
  refine gw_iadd C dX9_advance_28 ?_
  refine gw_aload_n C 2 dX9_advance_29 rfl rfl ?_
  refine gw_get C 0 4 in_X9_advance_X9 dX9_advance_30 lk_X9_advance_21 rfl rfl (by decide) rfl rfl ?_
  refine gw_iload C 0 dX9_advance_33 rfl ?_
  refine gw_ald C (v := .ref (sa 10)) 2 4 dX9_advance_35 rfl rfl (by decide) (by decide) rfl ?_
  refine gw_get C 6 2 in_X9_advance_X3 dX9_advance_36 lk_X9_advance_83 rfl rfl (by decide) rfl rfl ?_
  refine gw_bipush C 6 dX9_advance_39 (by decide) ?_
  refine gw_aload_n C 2 dX9_advance_41 rfl rfl ?_
  refine gw_get C 0 5 in_X9_advance_X9 dX9_advance_42 lk_X9_advance_25 rfl rfl (by decide) rfl rfl ?_
  refine gw_iload_n C 1 dX9_advance_45 rfl rfl ?_
  refine gw_iload C 0 dX9_advance_46 rfl ?_
  refine gw_iadd C dX9_advance_48 ?_
  refine gw_ild C (v := nI (Nm ((b) + (0)))) 3 0 dX9_advance_49 rfl rfl (by first | decide | omega) (by omega) rfl ?_
  refine gw_imul C dX9_advance_50 ?_
  refine gw_iload_n C 4 dX9_advance_51 rfl rfl ?_
  refine gw_iadd C dX9_advance_52 ?_
  refine gw_ild C (v := nI ((nx 0) (((6) * (Nm ((b) + (0)))) + (fc)))) 7 0 dX9_advance_53 rfl rfl (by first | decide | omega) (by omega) rfl ?_
  refine gw_istN C (ws2 := [(sa 0, .inr (7, [.ref (sa 1), iN (6), iN (7), iN (2048), .ref (sa 2), .ref (sa 3), nv])), (sa 1, .inl (cI, 15, .inl (fun j => nI (Wy j)))), (sa 2, .inl (cF, 1, .inr (.inr (.inr (.inr (fq_ sa 1)))))), (sa 3, .inl (cI, 16 * 1, .inl (fun j => nI ((up1 Nm ((b) + (0)) ((nx 0) (((6) * (Nm ((b) + (0)))) + (fc)))) j)))), x1, x2, (sa 10, .inr (2, [iN (0), iN (2048), .ref (sa 11)])), (sa 11, .inl (cI, 12288, .inl (fun j => nI ((nx 0) j))))]) 3 0 dX9_advance_54 rfl rfl (by first | decide | omega) (by omega) rfl ?_
  refine gw_iinc C (v := nI (1)) (lv2 := [(4, iN (1)), (3, iN (b)), (0, .ref (sa 0)), (1, iN (d)), (2, iN (fc))]) 0 dX9_advance_55 rfl (by decide) (by omega) rfl ?_
  refine gw_goto C 11 dX9_advance_58 (by decide) ?_
  refine gw_ws (ws2 := [(sa 0, .inr (7, [.ref (sa 1), iN (6), iN (7), iN (2048), .ref (sa 2), .ref (sa 3), nv])), (sa 1, .inl (cI, 15, .inl (fun j => nI (Wy j)))), (sa 2, .inl (cF, 1, .inr (.inr (.inr (.inr (fq_ sa 1)))))), (sa 3, .inl (cI, 16 * 1, .inl (fun j => nI ((ad_ nx b fc Nm 1) j)))), x1, x2, (sa 10, .inr (2, [iN (0), iN (2048), .ref (sa 11)])), (sa 11, .inl (cI, 12288, .inl (fun j => nI ((nx 0) j))))]) rfl ?_
  refine gw_iload C 0 dX9_advance_11 rfl ?_
  refine gw_aload_n C 2 dX9_advance_13 rfl rfl ?_
  refine gw_get C 0 4 in_X9_advance_X9 dX9_advance_14 lk_X9_advance_21 rfl rfl (by decide) rfl rfl ?_
  refine gw_alen C 2 4 (1) dX9_advance_17 rfl rfl rfl ?_
  refine gw_icmp_ge C 61 dX9_advance_18 (by decide) (by omega) (by omega) (fun h76 => ?_) (fun h76 => ?_)
  rotate_left
  · exact absurd h76 (by decide)
  exact ret () dX9_advance_61 trivial (by rw [eb]; rfl) (Nat.le_refl 0) (Nat.le_refl 0)
set_option maxHeartbeats 4000000 in
set_option maxRecDepth 100000 in
theorem c_showState0 (l : Launch) (D : va_G) (cI cB cS cJ cF cG : ClassId) (tt : Nat → Nat) (sa : Nat → Nat) (Wy Nm : Nat → Nat) (nv : Value) (sc nx : Nat → Nat → Nat) (x1 : Nat × va_E) (x2 : Nat × va_E) (s : Nat) (hs : s < 2 ^ 31) : gw_CV (S := Unit) l yX9_showState wsX9_showState 0 0 0 0 D (mo_ty cI cB cS cJ cF cG) (zs tt) (sg_ws cI cF sa 1 6 7 2048 (nv) (Wy) (Nm) (x1 :: x2 :: fl0_ws cI sa sc nx)) [.ref (sa 0), iN s] (fun _ => True) (fun _ => sg_ws cI cF sa 1 6 7 2048 (nv) (Wy) (ss_N sz0 1 s Nm 1) (x1 :: x2 :: fl0_ws cI sa sc nx)) := by
  refine gw_CV.of (cc := cX9_showState) (maxL := 4) (zs_ok tt) (by decide) rfl (Nat.le_of_ble_eq_true rfl) ?_
  intro K C hkl hkn hkR hkD hmn ret
  have C : gw_x K cX9_showState RX9 wsX9_showState (mo_ty cI cB cS cJ cF cG) (zs tt) := C
  subst hkl hkD
  have hrc : (kR K).cells = 0 := by rw [hkR]
  have hrs : (kR K).slots = 0 := by rw [hkR]
  refine gw_iload_n C 1 dX9_showState_0 rfl rfl ?_
  refine gw_istore_n C (lv2 := [(2, iN (s)), (0, .ref (sa 0)), (1, iN (s))]) dX9_showState_1 rfl (by omega) rfl ?_
  refine gw_aload_n C 1 dX9_showState_2 rfl rfl ?_
  refine gw_get C 0 4 in_X9_showState_X9 dX9_showState_3 lk_X9_showState_21 rfl rfl (by decide) rfl rfl ?_
  refine gw_alen C 2 4 (1) dX9_showState_6 rfl rfl rfl ?_
  refine gw_iconst C 1 dX9_showState_7 (by decide) ?_
  refine gw_isub C dX9_showState_8 (by omega) ?_
  refine gw_istore_n C (lv2 := [(3, iN ((1) - (1))), (2, iN (s)), (0, .ref (sa 0)), (1, iN (s))]) dX9_showState_9 rfl (by omega) rfl ?_
  refine gw_lv (lv2 := [(3, iN 0), (2, iN s), (0, .ref (sa 0))]) [0, 1, 2] rfl ?_
  refine gw_iload_n C 0 dX9_showState_10 rfl rfl ?_
  refine gw_if_lt C 49 dX9_showState_11 (by decide) (by omega) (fun h77 => ?_) (fun h77 => ?_)
  · exact absurd h77 (by decide)
  refine gw_aload_n C 2 dX9_showState_14 rfl rfl ?_
  refine gw_get C 0 5 in_X9_showState_X9 dX9_showState_15 lk_X9_showState_25 rfl rfl (by decide) rfl rfl ?_
  refine gw_iload_n C 0 dX9_showState_18 rfl rfl ?_
  refine gw_iload_n C 1 dX9_showState_19 rfl rfl ?_
  refine gw_aload_n C 2 dX9_showState_20 rfl rfl ?_
  refine gw_get C 0 4 in_X9_showState_X9 dX9_showState_21 lk_X9_showState_21 rfl rfl (by decide) rfl rfl ?_
  refine gw_iload_n C 0 dX9_showState_24 rfl rfl ?_
  refine gw_ald C (v := .ref (sa 10)) 2 4 dX9_showState_25 rfl rfl (by decide) (by decide) rfl ?_
  refine gw_get C 6 1 in_X9_showState_X3 dX9_showState_26 lk_X9_showState_86 rfl rfl (by decide) rfl rfl ?_
  refine gw_irem C dX9_showState_29 (by omega) (by omega) (by omega) ?_
  refine gw_istN C (ws2 := [(sa 0, .inr (7, [.ref (sa 1), iN (6), iN (7), iN (2048), .ref (sa 2), .ref (sa 3), nv])), (sa 1, .inl (cI, 15, .inl (fun j => nI (Wy j)))), (sa 2, .inl (cF, 1, .inr (.inr (.inr (.inr (fq_ sa 1)))))), (sa 3, .inl (cI, 16 * 1, .inl (fun j => nI ((up1 Nm (0) ((s) % (2048))) j)))), x1, x2, (sa 10, .inr (2, [iN (0), iN (2048), .ref (sa 11)])), (sa 11, .inl (cI, 12288, .inl (fun j => nI ((nx 0) j))))]) 3 0 dX9_showState_30 rfl rfl (by first | decide | omega) (by omega) rfl ?_
  refine gw_iload_n C 1 dX9_showState_31 rfl rfl ?_
  refine gw_aload_n C 2 dX9_showState_32 rfl rfl ?_
  refine gw_get C 0 4 in_X9_showState_X9 dX9_showState_33 lk_X9_showState_21 rfl rfl (by decide) rfl rfl ?_
  refine gw_iload_n C 0 dX9_showState_36 rfl rfl ?_
  refine gw_ald C (v := .ref (sa 10)) 2 4 dX9_showState_37 rfl rfl (by decide) (by decide) rfl ?_
  refine gw_get C 6 1 in_X9_showState_X3 dX9_showState_38 lk_X9_showState_86 rfl rfl (by decide) rfl rfl ?_
  refine gw_idiv C dX9_showState_41 (by omega) (by omega) (by omega) ?_
  refine gw_istore_n C (lv2 := [(2, iN ((s) / (2048))), (3, iN (0)), (0, .ref (sa 0))]) dX9_showState_42 rfl (by omega) rfl ?_
  refine gw_iinc C (v := nI (4294967295)) (lv2 := [(3, iN (4294967295)), (2, iN ((s) / (2048))), (0, .ref (sa 0))]) 1 dX9_showState_43 rfl (by decide) (by omega) rfl ?_
  refine gw_goto C 10 dX9_showState_46 (by decide) ?_
  refine gw_ws (ws2 := [(sa 0, .inr (7, [.ref (sa 1), iN (6), iN (7), iN (2048), .ref (sa 2), .ref (sa 3), nv])), (sa 1, .inl (cI, 15, .inl (fun j => nI (Wy j)))), (sa 2, .inl (cF, 1, .inr (.inr (.inr (.inr (fq_ sa 1)))))), (sa 3, .inl (cI, 16 * 1, .inl (fun j => nI ((ss_N sz0 1 s Nm 1) j)))), x1, x2, (sa 10, .inr (2, [iN (0), iN (2048), .ref (sa 11)])), (sa 11, .inl (cI, 12288, .inl (fun j => nI ((nx 0) j))))]) rfl ?_
  refine gw_iload_n C 0 dX9_showState_10 rfl rfl ?_
  refine gw_if_lt32 C 49 dX9_showState_11 (by decide) (by omega) (fun h78 => ?_) (fun h78 => ?_)
  rotate_left
  · exact absurd h78 (by decide)
  exact ret () dX9_showState_49 trivial rfl (Nat.le_refl 0) (Nat.le_refl 0)
set_option maxHeartbeats 4000000 in
set_option maxRecDepth 100000 in
theorem c_stateAt10 (l : Launch) (D : va_G) (cI cB cS cJ cF cG : ClassId) (tt : Nat → Nat) (sa : Nat → Nat) (Wy Nm : Nat → Nat) (nv : Value) (sc nx : Nat → Nat → Nat) (d : Nat) (hd : d ≤ 15) : gw_CI (S := Unit) l yX9_stateAt wsX9_stateAt 0 0 0 0 D (mo_ty cI cB cS cJ cF cG) (zs tt) (sg_ws cI cF sa 2 4 5 2048 (nv) (Wy) (Nm) (fu1_ws cI sa sc)) [.ref (sa 0), iN d] (fun r _ => r = nI (sa_ sz1 Nm (d * 2) 2)) (fun _ => sg_ws cI cF sa 2 4 5 2048 (nv) (Wy) (Nm) (fu1_ws cI sa sc)) := by
  refine gw_CI.of (cc := cX9_stateAt) (maxL := 5) (rt := .int) (zs_ok tt) (by decide) rfl (Nat.le_of_ble_eq_true rfl) ?_
  intro K C hkl hkn hkR hkD hmn ret
  have C : gw_x K cX9_stateAt RX9 wsX9_stateAt (mo_ty cI cB cS cJ cF cG) (zs tt) := C
  subst hkl hkD
  have hrc : (kR K).cells = 0 := by rw [hkR]
  have hrs : (kR K).slots = 0 := by rw [hkR]
  refine gw_iload_n C 1 dX9_stateAt_0 rfl rfl ?_
  refine gw_aload_n C 0 dX9_stateAt_1 rfl rfl ?_
  refine gw_get C 0 4 in_X9_stateAt_X9 dX9_stateAt_2 lk_X9_stateAt_21 rfl rfl (by decide) rfl rfl ?_
  refine gw_alen C 2 4 (2) dX9_stateAt_5 rfl rfl rfl ?_
  refine gw_imul C dX9_stateAt_6 ?_
  refine gw_istore_n C (lv2 := [(2, iN ((d) * (2))), (0, .ref (sa 0)), (1, iN (d))]) dX9_stateAt_7 rfl (by omega) rfl ?_
  refine gw_iconst C 0 dX9_stateAt_8 (by decide) ?_
  refine gw_istore_n C (lv2 := [(3, iN (0)), (2, iN ((d) * (2))), (0, .ref (sa 0)), (1, iN (d))]) dX9_stateAt_9 rfl (by omega) rfl ?_
  refine gw_iconst C 0 dX9_stateAt_10 (by decide) ?_
  refine gw_istore C (lv2 := [(4, iN (0)), (3, iN (0)), (2, iN ((d) * (2))), (0, .ref (sa 0)), (1, iN (d))]) dX9_stateAt_11 (by omega) rfl ?_
  refine gw_iload C 0 dX9_stateAt_13 rfl ?_
  refine gw_aload_n C 3 dX9_stateAt_15 rfl rfl ?_
  refine gw_get C 0 4 in_X9_stateAt_X9 dX9_stateAt_16 lk_X9_stateAt_21 rfl rfl (by decide) rfl rfl ?_
  refine gw_alen C 2 4 (2) dX9_stateAt_19 rfl rfl rfl ?_
  refine gw_icmp_ge C 52 dX9_stateAt_20 (by decide) (by omega) (by omega) (fun h79 => ?_) (fun h79 => ?_)
  · exact absurd h79 (by decide)
  refine gw_iload_n C 1 dX9_stateAt_23 rfl rfl ?_
  refine gw_aload_n C 3 dX9_stateAt_24 rfl rfl ?_
  refine gw_get C 0 4 in_X9_stateAt_X9 dX9_stateAt_25 lk_X9_stateAt_21 rfl rfl (by decide) rfl rfl ?_
  refine gw_iload C 0 dX9_stateAt_28 rfl ?_
  refine gw_ald C (v := .ref (sa 10)) 2 4 dX9_stateAt_30 rfl rfl (by decide) (by decide) rfl ?_
  refine gw_get C 4 1 in_X9_stateAt_X3 dX9_stateAt_31 lk_X9_stateAt_86 rfl rfl (by decide) rfl rfl ?_
  refine gw_imul C dX9_stateAt_34 ?_
  refine gw_aload_n C 3 dX9_stateAt_35 rfl rfl ?_
  refine gw_get C 0 5 in_X9_stateAt_X9 dX9_stateAt_36 lk_X9_stateAt_25 rfl rfl (by decide) rfl rfl ?_
  refine gw_iload_n C 2 dX9_stateAt_39 rfl rfl ?_
  refine gw_iload C 0 dX9_stateAt_40 rfl ?_
  refine gw_iadd C dX9_stateAt_42 ?_
  refine gw_ild C (v := nI (Nm (((d) * (2)) + (0)))) 3 0 dX9_stateAt_43 rfl rfl (by first | decide | omega) (by omega) rfl ?_
  refine gw_iadd C dX9_stateAt_44 ?_
  refine gw_istore_n C (lv2 := [(3, iN (((0) * (2187)) + (Nm (((d) * (2)) + (0))))), (4, iN (0)), (2, iN ((d) * (2))), (0, .ref (sa 0)), (1, iN (d))]) dX9_stateAt_45 rfl (by omega) rfl ?_
  refine gw_iinc C (v := nI (1)) (lv2 := [(4, iN (1)), (3, iN (((0) * (2187)) + (Nm (((d) * (2)) + (0))))), (2, iN ((d) * (2))), (0, .ref (sa 0)), (1, iN (d))]) 1 dX9_stateAt_46 rfl (by decide) (by omega) rfl ?_
  refine gw_goto C 13 dX9_stateAt_49 (by decide) ?_
  refine gw_iload C 0 dX9_stateAt_13 rfl ?_
  refine gw_aload_n C 3 dX9_stateAt_15 rfl rfl ?_
  refine gw_get C 0 4 in_X9_stateAt_X9 dX9_stateAt_16 lk_X9_stateAt_21 rfl rfl (by decide) rfl rfl ?_
  refine gw_alen C 2 4 (2) dX9_stateAt_19 rfl rfl rfl ?_
  refine gw_icmp_ge C 52 dX9_stateAt_20 (by decide) (by omega) (by omega) (fun h80 => ?_) (fun h80 => ?_)
  · exact absurd h80 (by decide)
  refine gw_iload_n C 1 dX9_stateAt_23 rfl rfl ?_
  refine gw_aload_n C 3 dX9_stateAt_24 rfl rfl ?_
  refine gw_get C 0 4 in_X9_stateAt_X9 dX9_stateAt_25 lk_X9_stateAt_21 rfl rfl (by decide) rfl rfl ?_
  refine gw_iload C 0 dX9_stateAt_28 rfl ?_
  refine gw_ald C (v := .ref (sa 20)) 2 4 dX9_stateAt_30 rfl rfl (by decide) (by decide) rfl ?_
  refine gw_get C 5 1 in_X9_stateAt_X8 dX9_stateAt_31 lk_X9_stateAt_86 rfl rfl (by decide) rfl rfl ?_
  refine gw_imul C dX9_stateAt_34 ?_
  refine gw_aload_n C 3 dX9_stateAt_35 rfl rfl ?_
  refine gw_get C 0 5 in_X9_stateAt_X9 dX9_stateAt_36 lk_X9_stateAt_25 rfl rfl (by decide) rfl rfl ?_
  refine gw_iload_n C 2 dX9_stateAt_39 rfl rfl ?_
  refine gw_iload C 0 dX9_stateAt_40 rfl ?_
  refine gw_iadd C dX9_stateAt_42 ?_
  refine gw_ild C (v := nI (Nm (((d) * (2)) + (1)))) 3 0 dX9_stateAt_43 rfl rfl (by first | decide | omega) (by omega) rfl ?_
  refine gw_iadd C dX9_stateAt_44 ?_
  refine gw_istore_n C (lv2 := [(3, iN (((((0) * (2187)) + (Nm (((d) * (2)) + (0)))) * (495)) + (Nm (((d) * (2)) + (1))))), (4, iN (1)), (2, iN ((d) * (2))), (0, .ref (sa 0)), (1, iN (d))]) dX9_stateAt_45 rfl (by omega) rfl ?_
  refine gw_iinc C (v := nI (2)) (lv2 := [(4, iN (2)), (3, iN (((((0) * (2187)) + (Nm (((d) * (2)) + (0)))) * (495)) + (Nm (((d) * (2)) + (1))))), (2, iN ((d) * (2))), (0, .ref (sa 0)), (1, iN (d))]) 1 dX9_stateAt_46 rfl (by decide) (by omega) rfl ?_
  refine gw_goto C 13 dX9_stateAt_49 (by decide) ?_
  refine gw_iload C 0 dX9_stateAt_13 rfl ?_
  refine gw_aload_n C 3 dX9_stateAt_15 rfl rfl ?_
  refine gw_get C 0 4 in_X9_stateAt_X9 dX9_stateAt_16 lk_X9_stateAt_21 rfl rfl (by decide) rfl rfl ?_
  refine gw_alen C 2 4 (2) dX9_stateAt_19 rfl rfl rfl ?_
  refine gw_icmp_ge C 52 dX9_stateAt_20 (by decide) (by omega) (by omega) (fun h81 => ?_) (fun h81 => ?_)
  rotate_left
  · exact absurd h81 (by decide)
  refine gw_iload_n C 1 dX9_stateAt_52 rfl rfl ?_
  exact ret () dX9_stateAt_53 rfl rfl rfl (Nat.le_refl 0) (Nat.le_refl 0)
set_option maxHeartbeats 4000000 in
set_option maxRecDepth 100000 in
theorem c_stateAt11 (l : Launch) (D : va_G) (cI cB cS cJ cF cG : ClassId) (tt : Nat → Nat) (sa : Nat → Nat) (Wy Nm : Nat → Nat) (nv : Value) (sc nx : Nat → Nat → Nat) (x1 : Nat × va_E) (d : Nat) (hd : d ≤ 15) : gw_CI (S := Unit) l yX9_stateAt wsX9_stateAt 0 0 0 0 D (mo_ty cI cB cS cJ cF cG) (zs tt) (sg_ws cI cF sa 2 4 5 2048 (nv) (Wy) (Nm) (x1 :: fl1_ws cI sa sc nx)) [.ref (sa 0), iN d] (fun r _ => r = nI (sa_ sz1 Nm (d * 2) 2)) (fun _ => sg_ws cI cF sa 2 4 5 2048 (nv) (Wy) (Nm) (x1 :: fl1_ws cI sa sc nx)) := by
  refine gw_CI.of (cc := cX9_stateAt) (maxL := 5) (rt := .int) (zs_ok tt) (by decide) rfl (Nat.le_of_ble_eq_true rfl) ?_
  intro K C hkl hkn hkR hkD hmn ret
  have C : gw_x K cX9_stateAt RX9 wsX9_stateAt (mo_ty cI cB cS cJ cF cG) (zs tt) := C
  subst hkl hkD
  have hrc : (kR K).cells = 0 := by rw [hkR]
  have hrs : (kR K).slots = 0 := by rw [hkR]
  refine gw_iload_n C 1 dX9_stateAt_0 rfl rfl ?_
  refine gw_aload_n C 0 dX9_stateAt_1 rfl rfl ?_
  refine gw_get C 0 4 in_X9_stateAt_X9 dX9_stateAt_2 lk_X9_stateAt_21 rfl rfl (by decide) rfl rfl ?_
  refine gw_alen C 2 4 (2) dX9_stateAt_5 rfl rfl rfl ?_
  refine gw_imul C dX9_stateAt_6 ?_
  refine gw_istore_n C (lv2 := [(2, iN ((d) * (2))), (0, .ref (sa 0)), (1, iN (d))]) dX9_stateAt_7 rfl (by omega) rfl ?_
  refine gw_iconst C 0 dX9_stateAt_8 (by decide) ?_
  refine gw_istore_n C (lv2 := [(3, iN (0)), (2, iN ((d) * (2))), (0, .ref (sa 0)), (1, iN (d))]) dX9_stateAt_9 rfl (by omega) rfl ?_
  refine gw_iconst C 0 dX9_stateAt_10 (by decide) ?_
  refine gw_istore C (lv2 := [(4, iN (0)), (3, iN (0)), (2, iN ((d) * (2))), (0, .ref (sa 0)), (1, iN (d))]) dX9_stateAt_11 (by omega) rfl ?_
  refine gw_iload C 0 dX9_stateAt_13 rfl ?_
  refine gw_aload_n C 3 dX9_stateAt_15 rfl rfl ?_
  refine gw_get C 0 4 in_X9_stateAt_X9 dX9_stateAt_16 lk_X9_stateAt_21 rfl rfl (by decide) rfl rfl ?_
  refine gw_alen C 2 4 (2) dX9_stateAt_19 rfl rfl rfl ?_
  refine gw_icmp_ge C 52 dX9_stateAt_20 (by decide) (by omega) (by omega) (fun h82 => ?_) (fun h82 => ?_)
  · exact absurd h82 (by decide)
  refine gw_iload_n C 1 dX9_stateAt_23 rfl rfl ?_
  refine gw_aload_n C 3 dX9_stateAt_24 rfl rfl ?_
  refine gw_get C 0 4 in_X9_stateAt_X9 dX9_stateAt_25 lk_X9_stateAt_21 rfl rfl (by decide) rfl rfl ?_
  refine gw_iload C 0 dX9_stateAt_28 rfl ?_
  refine gw_ald C (v := .ref (sa 10)) 2 4 dX9_stateAt_30 rfl rfl (by decide) (by decide) rfl ?_
  refine gw_get C 5 1 in_X9_stateAt_X3 dX9_stateAt_31 lk_X9_stateAt_86 rfl rfl (by decide) rfl rfl ?_
  refine gw_imul C dX9_stateAt_34 ?_
  refine gw_aload_n C 3 dX9_stateAt_35 rfl rfl ?_
  refine gw_get C 0 5 in_X9_stateAt_X9 dX9_stateAt_36 lk_X9_stateAt_25 rfl rfl (by decide) rfl rfl ?_
  refine gw_iload_n C 2 dX9_stateAt_39 rfl rfl ?_
  refine gw_iload C 0 dX9_stateAt_40 rfl ?_
  refine gw_iadd C dX9_stateAt_42 ?_
  refine gw_ild C (v := nI (Nm (((d) * (2)) + (0)))) 3 0 dX9_stateAt_43 rfl rfl (by first | decide | omega) (by omega) rfl ?_
  refine gw_iadd C dX9_stateAt_44 ?_
  refine gw_istore_n C (lv2 := [(3, iN (((0) * (2187)) + (Nm (((d) * (2)) + (0))))), (4, iN (0)), (2, iN ((d) * (2))), (0, .ref (sa 0)), (1, iN (d))]) dX9_stateAt_45 rfl (by omega) rfl ?_
  refine gw_iinc C (v := nI (1)) (lv2 := [(4, iN (1)), (3, iN (((0) * (2187)) + (Nm (((d) * (2)) + (0))))), (2, iN ((d) * (2))), (0, .ref (sa 0)), (1, iN (d))]) 1 dX9_stateAt_46 rfl (by decide) (by omega) rfl ?_
  refine gw_goto C 13 dX9_stateAt_49 (by decide) ?_
  refine gw_iload C 0 dX9_stateAt_13 rfl ?_
  refine gw_aload_n C 3 dX9_stateAt_15 rfl rfl ?_
  refine gw_get C 0 4 in_X9_stateAt_X9 dX9_stateAt_16 lk_X9_stateAt_21 rfl rfl (by decide) rfl rfl ?_
  refine gw_alen C 2 4 (2) dX9_stateAt_19 rfl rfl rfl ?_
  refine gw_icmp_ge C 52 dX9_stateAt_20 (by decide) (by omega) (by omega) (fun h83 => ?_) (fun h83 => ?_)
  · exact absurd h83 (by decide)
  refine gw_iload_n C 1 dX9_stateAt_23 rfl rfl ?_
  refine gw_aload_n C 3 dX9_stateAt_24 rfl rfl ?_
  refine gw_get C 0 4 in_X9_stateAt_X9 dX9_stateAt_25 lk_X9_stateAt_21 rfl rfl (by decide) rfl rfl ?_
  refine gw_iload C 0 dX9_stateAt_28 rfl ?_
  refine gw_ald C (v := .ref (sa 20)) 2 4 dX9_stateAt_30 rfl rfl (by decide) (by decide) rfl ?_
  refine gw_get C 7 1 in_X9_stateAt_X8 dX9_stateAt_31 lk_X9_stateAt_86 rfl rfl (by decide) rfl rfl ?_
  refine gw_imul C dX9_stateAt_34 ?_
  refine gw_aload_n C 3 dX9_stateAt_35 rfl rfl ?_
  refine gw_get C 0 5 in_X9_stateAt_X9 dX9_stateAt_36 lk_X9_stateAt_25 rfl rfl (by decide) rfl rfl ?_
  refine gw_iload_n C 2 dX9_stateAt_39 rfl rfl ?_
  refine gw_iload C 0 dX9_stateAt_40 rfl ?_
  refine gw_iadd C dX9_stateAt_42 ?_
  refine gw_ild C (v := nI (Nm (((d) * (2)) + (1)))) 3 0 dX9_stateAt_43 rfl rfl (by first | decide | omega) (by omega) rfl ?_
  refine gw_iadd C dX9_stateAt_44 ?_
  refine gw_istore_n C (lv2 := [(3, iN (((((0) * (2187)) + (Nm (((d) * (2)) + (0)))) * (495)) + (Nm (((d) * (2)) + (1))))), (4, iN (1)), (2, iN ((d) * (2))), (0, .ref (sa 0)), (1, iN (d))]) dX9_stateAt_45 rfl (by omega) rfl ?_
  refine gw_iinc C (v := nI (2)) (lv2 := [(4, iN (2)), (3, iN (((((0) * (2187)) + (Nm (((d) * (2)) + (0)))) * (495)) + (Nm (((d) * (2)) + (1))))), (2, iN ((d) * (2))), (0, .ref (sa 0)), (1, iN (d))]) 1 dX9_stateAt_46 rfl (by decide) (by omega) rfl ?_
  refine gw_goto C 13 dX9_stateAt_49 (by decide) ?_
  refine gw_iload C 0 dX9_stateAt_13 rfl ?_
  refine gw_aload_n C 3 dX9_stateAt_15 rfl rfl ?_
  refine gw_get C 0 4 in_X9_stateAt_X9 dX9_stateAt_16 lk_X9_stateAt_21 rfl rfl (by decide) rfl rfl ?_
  refine gw_alen C 2 4 (2) dX9_stateAt_19 rfl rfl rfl ?_
  refine gw_icmp_ge C 52 dX9_stateAt_20 (by decide) (by omega) (by omega) (fun h84 => ?_) (fun h84 => ?_)
  rotate_left
  · exact absurd h84 (by decide)
  refine gw_iload_n C 1 dX9_stateAt_52 rfl rfl ?_
  exact ret () dX9_stateAt_53 rfl rfl rfl (Nat.le_refl 0) (Nat.le_refl 0)
set_option maxHeartbeats 4000000 in
set_option maxRecDepth 100000 in
theorem c_advance11 (l : Launch) (D : va_G) (cI cB cS cJ cF cG : ClassId) (tt : Nat → Nat) (sa : Nat → Nat) (Wy Nm : Nat → Nat) (nv : Value) (sc nx : Nat → Nat → Nat) (x1 : Nat × va_E) (d fc : Nat) (hd : d ≤ 15) (hf : fc < 6) (h0 : Nm (d * 2 + 0) < 2187) (h1 : Nm (d * 2 + 1) < 495) : gw_CV (S := Unit) l yX9_advance wsX9_advance 0 0 0 0 D (mo_ty cI cB cS cJ cF cG) (zs tt) (sg_ws cI cF sa 2 4 5 2048 (nv) (Wy) (Nm) (x1 :: fl1_ws cI sa sc nx)) [.ref (sa 0), iN d, iN fc] (fun _ => True) (fun _ => sg_ws cI cF sa 2 4 5 2048 (nv) (Wy) (ad_ nx (d * 2) fc Nm 2) (x1 :: fl1_ws cI sa sc nx)) := by
  refine gw_CV.of (cc := cX9_advance) (maxL := 5) (zs_ok tt) (by decide) rfl (Nat.le_of_ble_eq_true rfl) ?_
  intro K C hkl hkn hkR hkD hmn ret
  have C : gw_x K cX9_advance RX9 wsX9_advance (mo_ty cI cB cS cJ cF cG) (zs tt) := C
  subst hkl hkD
  have hrc : (kR K).cells = 0 := by rw [hkR]
  have hrs : (kR K).slots = 0 := by rw [hkR]
  obtain ⟨b, eb⟩ : ∃ b, b = d * 2 := ⟨_, rfl⟩
  rw [← eb] at h0 h1
  refine gw_iload_n C 1 dX9_advance_0 rfl rfl ?_
  refine gw_aload_n C 0 dX9_advance_1 rfl rfl ?_
  refine gw_get C 0 4 in_X9_advance_X9 dX9_advance_2 lk_X9_advance_21 rfl rfl (by decide) rfl rfl ?_
  refine gw_alen C 2 4 (2) dX9_advance_5 rfl rfl rfl ?_
  refine gw_imul C dX9_advance_6 ?_
  refine gw_istore_n C (lv2 := [(3, iN ((d) * (2))), (0, .ref (sa 0)), (1, iN (d)), (2, iN (fc))]) dX9_advance_7 rfl (by omega) rfl ?_
  refine gw_iconst C 0 dX9_advance_8 (by decide) ?_
  refine gw_istore C (lv2 := [(4, iN (0)), (3, iN ((d) * (2))), (0, .ref (sa 0)), (1, iN (d)), (2, iN (fc))]) dX9_advance_9 (by omega) rfl ?_
  rw [← eb]
  refine gw_iload C 0 dX9_advance_11 rfl ?_
  refine gw_aload_n C 2 dX9_advance_13 rfl rfl ?_
  refine gw_get C 0 4 in_X9_advance_X9 dX9_advance_14 lk_X9_advance_21 rfl rfl (by decide) rfl rfl ?_
  refine gw_alen C 2 4 (2) dX9_advance_17 rfl rfl rfl ?_
  refine gw_icmp_ge C 61 dX9_advance_18 (by decide) (by omega) (by omega) (fun h85 => ?_) (fun h85 => ?_)
  · exact absurd h85 (by decide)
  have f0 : ad_ nx b fc Nm 0 (b + 0) < 2187 := by rw [ad_fix nx b fc Nm 0 _ (by omega)]; exact h0
  refine gw_aload_n C 2 dX9_advance_21 rfl rfl ?_
  refine gw_get C 0 5 in_X9_advance_X9 dX9_advance_22 lk_X9_advance_25 rfl rfl (by decide) rfl rfl ?_
  refine gw_iload_n C 1 dX9_advance_25 rfl rfl ?_
  refine gw_iload C 0 dX9_advance_26 rfl ?_
  refine gw_iadd C dX9_advance_28 ?_
  refine gw_aload_n C 2 dX9_advance_29 rfl rfl ?_
  refine gw_get C 0 4 in_X9_advance_X9 dX9_advance_30 lk_X9_advance_21 rfl rfl (by decide) rfl rfl ?_
  refine gw_iload C 0 dX9_advance_33 rfl ?_
  refine gw_ald C (v := .ref (sa 10)) 2 4 dX9_advance_35 rfl rfl (by decide) (by decide) rfl ?_
  refine gw_get C 5 2 in_X9_advance_X3 dX9_advance_36 lk_X9_advance_83 rfl rfl (by decide) rfl rfl ?_
  refine gw_bipush C 6 dX9_advance_39 (by decide) ?_
  refine gw_aload_n C 2 dX9_advance_41 rfl rfl ?_
  refine gw_get C 0 5 in_X9_advance_X9 dX9_advance_42 lk_X9_advance_25 rfl rfl (by decide) rfl rfl ?_
  refine gw_iload_n C 1 dX9_advance_45 rfl rfl ?_
  refine gw_iload C 0 dX9_advance_46 rfl ?_
  refine gw_iadd C dX9_advance_48 ?_
  refine gw_ild C (v := nI (Nm ((b) + (0)))) 3 0 dX9_advance_49 rfl rfl (by first | decide | omega) (by omega) rfl ?_
  refine gw_imul C dX9_advance_50 ?_
  refine gw_iload_n C 4 dX9_advance_51 rfl rfl ?_
  refine gw_iadd C dX9_advance_52 ?_
  refine gw_ild C (v := nI ((nx 0) (((6) * (Nm ((b) + (0)))) + (fc)))) 6 0 dX9_advance_53 rfl rfl (by first | decide | omega) (by omega) rfl ?_
  refine gw_istN C (ws2 := [(sa 0, .inr (7, [.ref (sa 1), iN (4), iN (5), iN (2048), .ref (sa 2), .ref (sa 3), nv])), (sa 1, .inl (cI, 15, .inl (fun j => nI (Wy j)))), (sa 2, .inl (cF, 2, .inr (.inr (.inr (.inr (fq_ sa 2)))))), (sa 3, .inl (cI, 16 * 2, .inl (fun j => nI ((up1 Nm ((b) + (0)) ((nx 0) (((6) * (Nm ((b) + (0)))) + (fc)))) j)))), x1, (sa 10, .inr (2, [iN (1), iN (2187), .ref (sa 11)])), (sa 11, .inl (cI, 13122, .inl (fun j => nI ((nx 0) j)))), (sa 20, .inr (6, [iN (0), iN (495), .ref (sa 21), iN (2), iN (12)])), (sa 21, .inl (cI, 2970, .inl (fun j => nI ((nx 1) j))))]) 3 0 dX9_advance_54 rfl rfl (by first | decide | omega) (by omega) rfl ?_
  refine gw_iinc C (v := nI (1)) (lv2 := [(4, iN (1)), (3, iN (b)), (0, .ref (sa 0)), (1, iN (d)), (2, iN (fc))]) 0 dX9_advance_55 rfl (by decide) (by omega) rfl ?_
  refine gw_goto C 11 dX9_advance_58 (by decide) ?_
  refine gw_ws (ws2 := [(sa 0, .inr (7, [.ref (sa 1), iN (4), iN (5), iN (2048), .ref (sa 2), .ref (sa 3), nv])), (sa 1, .inl (cI, 15, .inl (fun j => nI (Wy j)))), (sa 2, .inl (cF, 2, .inr (.inr (.inr (.inr (fq_ sa 2)))))), (sa 3, .inl (cI, 16 * 2, .inl (fun j => nI ((ad_ nx b fc Nm 1) j)))), x1, (sa 10, .inr (2, [iN (1), iN (2187), .ref (sa 11)])), (sa 11, .inl (cI, 13122, .inl (fun j => nI ((nx 0) j)))), (sa 20, .inr (6, [iN (0), iN (495), .ref (sa 21), iN (2), iN (12)])), (sa 21, .inl (cI, 2970, .inl (fun j => nI ((nx 1) j))))]) rfl ?_
  refine gw_iload C 0 dX9_advance_11 rfl ?_
  refine gw_aload_n C 2 dX9_advance_13 rfl rfl ?_
  refine gw_get C 0 4 in_X9_advance_X9 dX9_advance_14 lk_X9_advance_21 rfl rfl (by decide) rfl rfl ?_
  refine gw_alen C 2 4 (2) dX9_advance_17 rfl rfl rfl ?_
  refine gw_icmp_ge C 61 dX9_advance_18 (by decide) (by omega) (by omega) (fun h86 => ?_) (fun h86 => ?_)
  · exact absurd h86 (by decide)
  have f1 : ad_ nx b fc Nm 1 (b + 1) < 495 := by rw [ad_fix nx b fc Nm 1 _ (by omega)]; exact h1
  refine gw_aload_n C 2 dX9_advance_21 rfl rfl ?_
  refine gw_get C 0 5 in_X9_advance_X9 dX9_advance_22 lk_X9_advance_25 rfl rfl (by decide) rfl rfl ?_
  refine gw_iload_n C 1 dX9_advance_25 rfl rfl ?_
  refine gw_iload C 0 dX9_advance_26 rfl ?_
  refine gw_iadd C dX9_advance_28 ?_
  refine gw_aload_n C 2 dX9_advance_29 rfl rfl ?_
  refine gw_get C 0 4 in_X9_advance_X9 dX9_advance_30 lk_X9_advance_21 rfl rfl (by decide) rfl rfl ?_
  refine gw_iload C 0 dX9_advance_33 rfl ?_
  refine gw_ald C (v := .ref (sa 20)) 2 4 dX9_advance_35 rfl rfl (by decide) (by decide) rfl ?_
  refine gw_get C 7 2 in_X9_advance_X8 dX9_advance_36 lk_X9_advance_83 rfl rfl (by decide) rfl rfl ?_
  refine gw_bipush C 6 dX9_advance_39 (by decide) ?_
  refine gw_aload_n C 2 dX9_advance_41 rfl rfl ?_
  refine gw_get C 0 5 in_X9_advance_X9 dX9_advance_42 lk_X9_advance_25 rfl rfl (by decide) rfl rfl ?_
  refine gw_iload_n C 1 dX9_advance_45 rfl rfl ?_
  refine gw_iload C 0 dX9_advance_46 rfl ?_
  refine gw_iadd C dX9_advance_48 ?_
  refine gw_ild C (v := nI ((ad_ nx b fc Nm 1) ((b) + (1)))) 3 0 dX9_advance_49 rfl rfl (by first | decide | omega) (by omega) rfl ?_
  refine gw_imul C dX9_advance_50 ?_
  refine gw_iload_n C 4 dX9_advance_51 rfl rfl ?_
  refine gw_iadd C dX9_advance_52 ?_
  refine gw_ild C (v := nI ((nx 1) (((6) * ((ad_ nx b fc Nm 1) ((b) + (1)))) + (fc)))) 8 0 dX9_advance_53 rfl rfl (by first | decide | omega) (by omega) rfl ?_
  refine gw_istN C (ws2 := [(sa 0, .inr (7, [.ref (sa 1), iN (4), iN (5), iN (2048), .ref (sa 2), .ref (sa 3), nv])), (sa 1, .inl (cI, 15, .inl (fun j => nI (Wy j)))), (sa 2, .inl (cF, 2, .inr (.inr (.inr (.inr (fq_ sa 2)))))), (sa 3, .inl (cI, 16 * 2, .inl (fun j => nI ((up1 (ad_ nx b fc Nm 1) ((b) + (1)) ((nx 1) (((6) * ((ad_ nx b fc Nm 1) ((b) + (1)))) + (fc)))) j)))), x1, (sa 10, .inr (2, [iN (1), iN (2187), .ref (sa 11)])), (sa 11, .inl (cI, 13122, .inl (fun j => nI ((nx 0) j)))), (sa 20, .inr (6, [iN (0), iN (495), .ref (sa 21), iN (2), iN (12)])), (sa 21, .inl (cI, 2970, .inl (fun j => nI ((nx 1) j))))]) 3 0 dX9_advance_54 rfl rfl (by first | decide | omega) (by omega) rfl ?_
  refine gw_iinc C (v := nI (2)) (lv2 := [(4, iN (2)), (3, iN (b)), (0, .ref (sa 0)), (1, iN (d)), (2, iN (fc))]) 0 dX9_advance_55 rfl (by decide) (by omega) rfl ?_
  refine gw_goto C 11 dX9_advance_58 (by decide) ?_
  refine gw_ws (ws2 := [(sa 0, .inr (7, [.ref (sa 1), iN (4), iN (5), iN (2048), .ref (sa 2), .ref (sa 3), nv])), (sa 1, .inl (cI, 15, .inl (fun j => nI (Wy j)))), (sa 2, .inl (cF, 2, .inr (.inr (.inr (.inr (fq_ sa 2)))))), (sa 3, .inl (cI, 16 * 2, .inl (fun j => nI ((ad_ nx b fc Nm 2) j)))), x1, (sa 10, .inr (2, [iN (1), iN (2187), .ref (sa 11)])), (sa 11, .inl (cI, 13122, .inl (fun j => nI ((nx 0) j)))), (sa 20, .inr (6, [iN (0), iN (495), .ref (sa 21), iN (2), iN (12)])), (sa 21, .inl (cI, 2970, .inl (fun j => nI ((nx 1) j))))]) rfl ?_
  refine gw_iload C 0 dX9_advance_11 rfl ?_
  refine gw_aload_n C 2 dX9_advance_13 rfl rfl ?_
  refine gw_get C 0 4 in_X9_advance_X9 dX9_advance_14 lk_X9_advance_21 rfl rfl (by decide) rfl rfl ?_
  refine gw_alen C 2 4 (2) dX9_advance_17 rfl rfl rfl ?_
  refine gw_icmp_ge C 61 dX9_advance_18 (by decide) (by omega) (by omega) (fun h87 => ?_) (fun h87 => ?_)
  rotate_left
  · exact absurd h87 (by decide)
  exact ret () dX9_advance_61 trivial (by rw [eb]; rfl) (Nat.le_refl 0) (Nat.le_refl 0)
set_option maxHeartbeats 4000000 in
set_option maxRecDepth 100000 in
theorem c_stateAt12 (l : Launch) (D : va_G) (cI cB cS cJ cF cG : ClassId) (tt : Nat → Nat) (sa : Nat → Nat) (Wy Nm : Nat → Nat) (nv : Value) (sc nx : Nat → Nat → Nat) (x1 : Nat × va_E) (x2 : Nat × va_E) (d : Nat) (hd : d ≤ 15) : gw_CI (S := Unit) l yX9_stateAt wsX9_stateAt 0 0 0 0 D (mo_ty cI cB cS cJ cF cG) (zs tt) (sg_ws cI cF sa 2 4 5 2048 (nv) (Wy) (Nm) (x1 :: x2 :: fl1_ws cI sa sc nx)) [.ref (sa 0), iN d] (fun r _ => r = nI (sa_ sz1 Nm (d * 2) 2)) (fun _ => sg_ws cI cF sa 2 4 5 2048 (nv) (Wy) (Nm) (x1 :: x2 :: fl1_ws cI sa sc nx)) := by
  refine gw_CI.of (cc := cX9_stateAt) (maxL := 5) (rt := .int) (zs_ok tt) (by decide) rfl (Nat.le_of_ble_eq_true rfl) ?_
  intro K C hkl hkn hkR hkD hmn ret
  have C : gw_x K cX9_stateAt RX9 wsX9_stateAt (mo_ty cI cB cS cJ cF cG) (zs tt) := C
  subst hkl hkD
  have hrc : (kR K).cells = 0 := by rw [hkR]
  have hrs : (kR K).slots = 0 := by rw [hkR]
  refine gw_iload_n C 1 dX9_stateAt_0 rfl rfl ?_
  refine gw_aload_n C 0 dX9_stateAt_1 rfl rfl ?_
  refine gw_get C 0 4 in_X9_stateAt_X9 dX9_stateAt_2 lk_X9_stateAt_21 rfl rfl (by decide) rfl rfl ?_
  refine gw_alen C 2 4 (2) dX9_stateAt_5 rfl rfl rfl ?_
  refine gw_imul C dX9_stateAt_6 ?_
  refine gw_istore_n C (lv2 := [(2, iN ((d) * (2))), (0, .ref (sa 0)), (1, iN (d))]) dX9_stateAt_7 rfl (by omega) rfl ?_
  refine gw_iconst C 0 dX9_stateAt_8 (by decide) ?_
  refine gw_istore_n C (lv2 := [(3, iN (0)), (2, iN ((d) * (2))), (0, .ref (sa 0)), (1, iN (d))]) dX9_stateAt_9 rfl (by omega) rfl ?_
  refine gw_iconst C 0 dX9_stateAt_10 (by decide) ?_
  refine gw_istore C (lv2 := [(4, iN (0)), (3, iN (0)), (2, iN ((d) * (2))), (0, .ref (sa 0)), (1, iN (d))]) dX9_stateAt_11 (by omega) rfl ?_
  refine gw_iload C 0 dX9_stateAt_13 rfl ?_
  refine gw_aload_n C 3 dX9_stateAt_15 rfl rfl ?_
  refine gw_get C 0 4 in_X9_stateAt_X9 dX9_stateAt_16 lk_X9_stateAt_21 rfl rfl (by decide) rfl rfl ?_
  refine gw_alen C 2 4 (2) dX9_stateAt_19 rfl rfl rfl ?_
  refine gw_icmp_ge C 52 dX9_stateAt_20 (by decide) (by omega) (by omega) (fun h88 => ?_) (fun h88 => ?_)
  · exact absurd h88 (by decide)
  refine gw_iload_n C 1 dX9_stateAt_23 rfl rfl ?_
  refine gw_aload_n C 3 dX9_stateAt_24 rfl rfl ?_
  refine gw_get C 0 4 in_X9_stateAt_X9 dX9_stateAt_25 lk_X9_stateAt_21 rfl rfl (by decide) rfl rfl ?_
  refine gw_iload C 0 dX9_stateAt_28 rfl ?_
  refine gw_ald C (v := .ref (sa 10)) 2 4 dX9_stateAt_30 rfl rfl (by decide) (by decide) rfl ?_
  refine gw_get C 6 1 in_X9_stateAt_X3 dX9_stateAt_31 lk_X9_stateAt_86 rfl rfl (by decide) rfl rfl ?_
  refine gw_imul C dX9_stateAt_34 ?_
  refine gw_aload_n C 3 dX9_stateAt_35 rfl rfl ?_
  refine gw_get C 0 5 in_X9_stateAt_X9 dX9_stateAt_36 lk_X9_stateAt_25 rfl rfl (by decide) rfl rfl ?_
  refine gw_iload_n C 2 dX9_stateAt_39 rfl rfl ?_
  refine gw_iload C 0 dX9_stateAt_40 rfl ?_
  refine gw_iadd C dX9_stateAt_42 ?_
  refine gw_ild C (v := nI (Nm (((d) * (2)) + (0)))) 3 0 dX9_stateAt_43 rfl rfl (by first | decide | omega) (by omega) rfl ?_
  refine gw_iadd C dX9_stateAt_44 ?_
  refine gw_istore_n C (lv2 := [(3, iN (((0) * (2187)) + (Nm (((d) * (2)) + (0))))), (4, iN (0)), (2, iN ((d) * (2))), (0, .ref (sa 0)), (1, iN (d))]) dX9_stateAt_45 rfl (by omega) rfl ?_
  refine gw_iinc C (v := nI (1)) (lv2 := [(4, iN (1)), (3, iN (((0) * (2187)) + (Nm (((d) * (2)) + (0))))), (2, iN ((d) * (2))), (0, .ref (sa 0)), (1, iN (d))]) 1 dX9_stateAt_46 rfl (by decide) (by omega) rfl ?_
  refine gw_goto C 13 dX9_stateAt_49 (by decide) ?_
  refine gw_iload C 0 dX9_stateAt_13 rfl ?_
  refine gw_aload_n C 3 dX9_stateAt_15 rfl rfl ?_
  refine gw_get C 0 4 in_X9_stateAt_X9 dX9_stateAt_16 lk_X9_stateAt_21 rfl rfl (by decide) rfl rfl ?_
  refine gw_alen C 2 4 (2) dX9_stateAt_19 rfl rfl rfl ?_
  refine gw_icmp_ge C 52 dX9_stateAt_20 (by decide) (by omega) (by omega) (fun h89 => ?_) (fun h89 => ?_)
  · exact absurd h89 (by decide)
  refine gw_iload_n C 1 dX9_stateAt_23 rfl rfl ?_
  refine gw_aload_n C 3 dX9_stateAt_24 rfl rfl ?_
  refine gw_get C 0 4 in_X9_stateAt_X9 dX9_stateAt_25 lk_X9_stateAt_21 rfl rfl (by decide) rfl rfl ?_
  refine gw_iload C 0 dX9_stateAt_28 rfl ?_
  refine gw_ald C (v := .ref (sa 20)) 2 4 dX9_stateAt_30 rfl rfl (by decide) (by decide) rfl ?_
  refine gw_get C 8 1 in_X9_stateAt_X8 dX9_stateAt_31 lk_X9_stateAt_86 rfl rfl (by decide) rfl rfl ?_
  refine gw_imul C dX9_stateAt_34 ?_
  refine gw_aload_n C 3 dX9_stateAt_35 rfl rfl ?_
  refine gw_get C 0 5 in_X9_stateAt_X9 dX9_stateAt_36 lk_X9_stateAt_25 rfl rfl (by decide) rfl rfl ?_
  refine gw_iload_n C 2 dX9_stateAt_39 rfl rfl ?_
  refine gw_iload C 0 dX9_stateAt_40 rfl ?_
  refine gw_iadd C dX9_stateAt_42 ?_
  refine gw_ild C (v := nI (Nm (((d) * (2)) + (1)))) 3 0 dX9_stateAt_43 rfl rfl (by first | decide | omega) (by omega) rfl ?_
  refine gw_iadd C dX9_stateAt_44 ?_
  refine gw_istore_n C (lv2 := [(3, iN (((((0) * (2187)) + (Nm (((d) * (2)) + (0)))) * (495)) + (Nm (((d) * (2)) + (1))))), (4, iN (1)), (2, iN ((d) * (2))), (0, .ref (sa 0)), (1, iN (d))]) dX9_stateAt_45 rfl (by omega) rfl ?_
  refine gw_iinc C (v := nI (2)) (lv2 := [(4, iN (2)), (3, iN (((((0) * (2187)) + (Nm (((d) * (2)) + (0)))) * (495)) + (Nm (((d) * (2)) + (1))))), (2, iN ((d) * (2))), (0, .ref (sa 0)), (1, iN (d))]) 1 dX9_stateAt_46 rfl (by decide) (by omega) rfl ?_
  refine gw_goto C 13 dX9_stateAt_49 (by decide) ?_
  refine gw_iload C 0 dX9_stateAt_13 rfl ?_
  refine gw_aload_n C 3 dX9_stateAt_15 rfl rfl ?_
  refine gw_get C 0 4 in_X9_stateAt_X9 dX9_stateAt_16 lk_X9_stateAt_21 rfl rfl (by decide) rfl rfl ?_
  refine gw_alen C 2 4 (2) dX9_stateAt_19 rfl rfl rfl ?_
  refine gw_icmp_ge C 52 dX9_stateAt_20 (by decide) (by omega) (by omega) (fun h90 => ?_) (fun h90 => ?_)
  rotate_left
  · exact absurd h90 (by decide)
  refine gw_iload_n C 1 dX9_stateAt_52 rfl rfl ?_
  exact ret () dX9_stateAt_53 rfl rfl rfl (Nat.le_refl 0) (Nat.le_refl 0)
set_option maxHeartbeats 4000000 in
set_option maxRecDepth 100000 in
theorem c_advance12 (l : Launch) (D : va_G) (cI cB cS cJ cF cG : ClassId) (tt : Nat → Nat) (sa : Nat → Nat) (Wy Nm : Nat → Nat) (nv : Value) (sc nx : Nat → Nat → Nat) (x1 : Nat × va_E) (x2 : Nat × va_E) (d fc : Nat) (hd : d ≤ 15) (hf : fc < 6) (h0 : Nm (d * 2 + 0) < 2187) (h1 : Nm (d * 2 + 1) < 495) : gw_CV (S := Unit) l yX9_advance wsX9_advance 0 0 0 0 D (mo_ty cI cB cS cJ cF cG) (zs tt) (sg_ws cI cF sa 2 4 5 2048 (nv) (Wy) (Nm) (x1 :: x2 :: fl1_ws cI sa sc nx)) [.ref (sa 0), iN d, iN fc] (fun _ => True) (fun _ => sg_ws cI cF sa 2 4 5 2048 (nv) (Wy) (ad_ nx (d * 2) fc Nm 2) (x1 :: x2 :: fl1_ws cI sa sc nx)) := by
  refine gw_CV.of (cc := cX9_advance) (maxL := 5) (zs_ok tt) (by decide) rfl (Nat.le_of_ble_eq_true rfl) ?_
  intro K C hkl hkn hkR hkD hmn ret
  have C : gw_x K cX9_advance RX9 wsX9_advance (mo_ty cI cB cS cJ cF cG) (zs tt) := C
  subst hkl hkD
  have hrc : (kR K).cells = 0 := by rw [hkR]
  have hrs : (kR K).slots = 0 := by rw [hkR]
  obtain ⟨b, eb⟩ : ∃ b, b = d * 2 := ⟨_, rfl⟩
  rw [← eb] at h0 h1
  refine gw_iload_n C 1 dX9_advance_0 rfl rfl ?_
  refine gw_aload_n C 0 dX9_advance_1 rfl rfl ?_
  refine gw_get C 0 4 in_X9_advance_X9 dX9_advance_2 lk_X9_advance_21 rfl rfl (by decide) rfl rfl ?_
  refine gw_alen C 2 4 (2) dX9_advance_5 rfl rfl rfl ?_
  refine gw_imul C dX9_advance_6 ?_
  refine gw_istore_n C (lv2 := [(3, iN ((d) * (2))), (0, .ref (sa 0)), (1, iN (d)), (2, iN (fc))]) dX9_advance_7 rfl (by omega) rfl ?_
  refine gw_iconst C 0 dX9_advance_8 (by decide) ?_
  refine gw_istore C (lv2 := [(4, iN (0)), (3, iN ((d) * (2))), (0, .ref (sa 0)), (1, iN (d)), (2, iN (fc))]) dX9_advance_9 (by omega) rfl ?_
  rw [← eb]
  refine gw_iload C 0 dX9_advance_11 rfl ?_
  refine gw_aload_n C 2 dX9_advance_13 rfl rfl ?_
  refine gw_get C 0 4 in_X9_advance_X9 dX9_advance_14 lk_X9_advance_21 rfl rfl (by decide) rfl rfl ?_
  refine gw_alen C 2 4 (2) dX9_advance_17 rfl rfl rfl ?_
  refine gw_icmp_ge C 61 dX9_advance_18 (by decide) (by omega) (by omega) (fun h91 => ?_) (fun h91 => ?_)
  · exact absurd h91 (by decide)
  have f0 : ad_ nx b fc Nm 0 (b + 0) < 2187 := by rw [ad_fix nx b fc Nm 0 _ (by omega)]; exact h0
  refine gw_aload_n C 2 dX9_advance_21 rfl rfl ?_
  refine gw_get C 0 5 in_X9_advance_X9 dX9_advance_22 lk_X9_advance_25 rfl rfl (by decide) rfl rfl ?_
  refine gw_iload_n C 1 dX9_advance_25 rfl rfl ?_
  refine gw_iload C 0 dX9_advance_26 rfl ?_
  refine gw_iadd C dX9_advance_28 ?_
  refine gw_aload_n C 2 dX9_advance_29 rfl rfl ?_
  refine gw_get C 0 4 in_X9_advance_X9 dX9_advance_30 lk_X9_advance_21 rfl rfl (by decide) rfl rfl ?_
  refine gw_iload C 0 dX9_advance_33 rfl ?_
  refine gw_ald C (v := .ref (sa 10)) 2 4 dX9_advance_35 rfl rfl (by decide) (by decide) rfl ?_
  refine gw_get C 6 2 in_X9_advance_X3 dX9_advance_36 lk_X9_advance_83 rfl rfl (by decide) rfl rfl ?_
  refine gw_bipush C 6 dX9_advance_39 (by decide) ?_
  refine gw_aload_n C 2 dX9_advance_41 rfl rfl ?_
  refine gw_get C 0 5 in_X9_advance_X9 dX9_advance_42 lk_X9_advance_25 rfl rfl (by decide) rfl rfl ?_
  refine gw_iload_n C 1 dX9_advance_45 rfl rfl ?_
  refine gw_iload C 0 dX9_advance_46 rfl ?_
  refine gw_iadd C dX9_advance_48 ?_
  refine gw_ild C (v := nI (Nm ((b) + (0)))) 3 0 dX9_advance_49 rfl rfl (by first | decide | omega) (by omega) rfl ?_
  refine gw_imul C dX9_advance_50 ?_
  refine gw_iload_n C 4 dX9_advance_51 rfl rfl ?_
  refine gw_iadd C dX9_advance_52 ?_
  refine gw_ild C (v := nI ((nx 0) (((6) * (Nm ((b) + (0)))) + (fc)))) 7 0 dX9_advance_53 rfl rfl (by first | decide | omega) (by omega) rfl ?_
  refine gw_istN C (ws2 := [(sa 0, .inr (7, [.ref (sa 1), iN (4), iN (5), iN (2048), .ref (sa 2), .ref (sa 3), nv])), (sa 1, .inl (cI, 15, .inl (fun j => nI (Wy j)))), (sa 2, .inl (cF, 2, .inr (.inr (.inr (.inr (fq_ sa 2)))))), (sa 3, .inl (cI, 16 * 2, .inl (fun j => nI ((up1 Nm ((b) + (0)) ((nx 0) (((6) * (Nm ((b) + (0)))) + (fc)))) j)))), x1, x2, (sa 10, .inr (2, [iN (1), iN (2187), .ref (sa 11)])), (sa 11, .inl (cI, 13122, .inl (fun j => nI ((nx 0) j)))), (sa 20, .inr (6, [iN (0), iN (495), .ref (sa 21), iN (2), iN (12)])), (sa 21, .inl (cI, 2970, .inl (fun j => nI ((nx 1) j))))]) 3 0 dX9_advance_54 rfl rfl (by first | decide | omega) (by omega) rfl ?_
  refine gw_iinc C (v := nI (1)) (lv2 := [(4, iN (1)), (3, iN (b)), (0, .ref (sa 0)), (1, iN (d)), (2, iN (fc))]) 0 dX9_advance_55 rfl (by decide) (by omega) rfl ?_
  refine gw_goto C 11 dX9_advance_58 (by decide) ?_
  refine gw_ws (ws2 := [(sa 0, .inr (7, [.ref (sa 1), iN (4), iN (5), iN (2048), .ref (sa 2), .ref (sa 3), nv])), (sa 1, .inl (cI, 15, .inl (fun j => nI (Wy j)))), (sa 2, .inl (cF, 2, .inr (.inr (.inr (.inr (fq_ sa 2)))))), (sa 3, .inl (cI, 16 * 2, .inl (fun j => nI ((ad_ nx b fc Nm 1) j)))), x1, x2, (sa 10, .inr (2, [iN (1), iN (2187), .ref (sa 11)])), (sa 11, .inl (cI, 13122, .inl (fun j => nI ((nx 0) j)))), (sa 20, .inr (6, [iN (0), iN (495), .ref (sa 21), iN (2), iN (12)])), (sa 21, .inl (cI, 2970, .inl (fun j => nI ((nx 1) j))))]) rfl ?_
  refine gw_iload C 0 dX9_advance_11 rfl ?_
  refine gw_aload_n C 2 dX9_advance_13 rfl rfl ?_
  refine gw_get C 0 4 in_X9_advance_X9 dX9_advance_14 lk_X9_advance_21 rfl rfl (by decide) rfl rfl ?_
  refine gw_alen C 2 4 (2) dX9_advance_17 rfl rfl rfl ?_
  refine gw_icmp_ge C 61 dX9_advance_18 (by decide) (by omega) (by omega) (fun h92 => ?_) (fun h92 => ?_)
  · exact absurd h92 (by decide)
  have f1 : ad_ nx b fc Nm 1 (b + 1) < 495 := by rw [ad_fix nx b fc Nm 1 _ (by omega)]; exact h1
  refine gw_aload_n C 2 dX9_advance_21 rfl rfl ?_
  refine gw_get C 0 5 in_X9_advance_X9 dX9_advance_22 lk_X9_advance_25 rfl rfl (by decide) rfl rfl ?_
  refine gw_iload_n C 1 dX9_advance_25 rfl rfl ?_
  refine gw_iload C 0 dX9_advance_26 rfl ?_
  refine gw_iadd C dX9_advance_28 ?_
  refine gw_aload_n C 2 dX9_advance_29 rfl rfl ?_
  refine gw_get C 0 4 in_X9_advance_X9 dX9_advance_30 lk_X9_advance_21 rfl rfl (by decide) rfl rfl ?_
  refine gw_iload C 0 dX9_advance_33 rfl ?_
  refine gw_ald C (v := .ref (sa 20)) 2 4 dX9_advance_35 rfl rfl (by decide) (by decide) rfl ?_
  refine gw_get C 8 2 in_X9_advance_X8 dX9_advance_36 lk_X9_advance_83 rfl rfl (by decide) rfl rfl ?_
  refine gw_bipush C 6 dX9_advance_39 (by decide) ?_
  refine gw_aload_n C 2 dX9_advance_41 rfl rfl ?_
  refine gw_get C 0 5 in_X9_advance_X9 dX9_advance_42 lk_X9_advance_25 rfl rfl (by decide) rfl rfl ?_
  refine gw_iload_n C 1 dX9_advance_45 rfl rfl ?_
  refine gw_iload C 0 dX9_advance_46 rfl ?_
  refine gw_iadd C dX9_advance_48 ?_
  refine gw_ild C (v := nI ((ad_ nx b fc Nm 1) ((b) + (1)))) 3 0 dX9_advance_49 rfl rfl (by first | decide | omega) (by omega) rfl ?_
  refine gw_imul C dX9_advance_50 ?_
  refine gw_iload_n C 4 dX9_advance_51 rfl rfl ?_
  refine gw_iadd C dX9_advance_52 ?_
  refine gw_ild C (v := nI ((nx 1) (((6) * ((ad_ nx b fc Nm 1) ((b) + (1)))) + (fc)))) 9 0 dX9_advance_53 rfl rfl (by first | decide | omega) (by omega) rfl ?_
  refine gw_istN C (ws2 := [(sa 0, .inr (7, [.ref (sa 1), iN (4), iN (5), iN (2048), .ref (sa 2), .ref (sa 3), nv])), (sa 1, .inl (cI, 15, .inl (fun j => nI (Wy j)))), (sa 2, .inl (cF, 2, .inr (.inr (.inr (.inr (fq_ sa 2)))))), (sa 3, .inl (cI, 16 * 2, .inl (fun j => nI ((up1 (ad_ nx b fc Nm 1) ((b) + (1)) ((nx 1) (((6) * ((ad_ nx b fc Nm 1) ((b) + (1)))) + (fc)))) j)))), x1, x2, (sa 10, .inr (2, [iN (1), iN (2187), .ref (sa 11)])), (sa 11, .inl (cI, 13122, .inl (fun j => nI ((nx 0) j)))), (sa 20, .inr (6, [iN (0), iN (495), .ref (sa 21), iN (2), iN (12)])), (sa 21, .inl (cI, 2970, .inl (fun j => nI ((nx 1) j))))]) 3 0 dX9_advance_54 rfl rfl (by first | decide | omega) (by omega) rfl ?_
  refine gw_iinc C (v := nI (2)) (lv2 := [(4, iN (2)), (3, iN (b)), (0, .ref (sa 0)), (1, iN (d)), (2, iN (fc))]) 0 dX9_advance_55 rfl (by decide) (by omega) rfl ?_
  refine gw_goto C 11 dX9_advance_58 (by decide) ?_
  refine gw_ws (ws2 := [(sa 0, .inr (7, [.ref (sa 1), iN (4), iN (5), iN (2048), .ref (sa 2), .ref (sa 3), nv])), (sa 1, .inl (cI, 15, .inl (fun j => nI (Wy j)))), (sa 2, .inl (cF, 2, .inr (.inr (.inr (.inr (fq_ sa 2)))))), (sa 3, .inl (cI, 16 * 2, .inl (fun j => nI ((ad_ nx b fc Nm 2) j)))), x1, x2, (sa 10, .inr (2, [iN (1), iN (2187), .ref (sa 11)])), (sa 11, .inl (cI, 13122, .inl (fun j => nI ((nx 0) j)))), (sa 20, .inr (6, [iN (0), iN (495), .ref (sa 21), iN (2), iN (12)])), (sa 21, .inl (cI, 2970, .inl (fun j => nI ((nx 1) j))))]) rfl ?_
  refine gw_iload C 0 dX9_advance_11 rfl ?_
  refine gw_aload_n C 2 dX9_advance_13 rfl rfl ?_
  refine gw_get C 0 4 in_X9_advance_X9 dX9_advance_14 lk_X9_advance_21 rfl rfl (by decide) rfl rfl ?_
  refine gw_alen C 2 4 (2) dX9_advance_17 rfl rfl rfl ?_
  refine gw_icmp_ge C 61 dX9_advance_18 (by decide) (by omega) (by omega) (fun h93 => ?_) (fun h93 => ?_)
  rotate_left
  · exact absurd h93 (by decide)
  exact ret () dX9_advance_61 trivial (by rw [eb]; rfl) (Nat.le_refl 0) (Nat.le_refl 0)
set_option maxHeartbeats 4000000 in
set_option maxRecDepth 100000 in
theorem c_showState1 (l : Launch) (D : va_G) (cI cB cS cJ cF cG : ClassId) (tt : Nat → Nat) (sa : Nat → Nat) (Wy Nm : Nat → Nat) (nv : Value) (sc nx : Nat → Nat → Nat) (x1 : Nat × va_E) (x2 : Nat × va_E) (s : Nat) (hs : s < 2 ^ 31) : gw_CV (S := Unit) l yX9_showState wsX9_showState 0 0 0 0 D (mo_ty cI cB cS cJ cF cG) (zs tt) (sg_ws cI cF sa 2 4 5 2048 (nv) (Wy) (Nm) (x1 :: x2 :: fl1_ws cI sa sc nx)) [.ref (sa 0), iN s] (fun _ => True) (fun _ => sg_ws cI cF sa 2 4 5 2048 (nv) (Wy) (ss_N sz1 2 s Nm 2) (x1 :: x2 :: fl1_ws cI sa sc nx)) := by
  refine gw_CV.of (cc := cX9_showState) (maxL := 4) (zs_ok tt) (by decide) rfl (Nat.le_of_ble_eq_true rfl) ?_
  intro K C hkl hkn hkR hkD hmn ret
  have C : gw_x K cX9_showState RX9 wsX9_showState (mo_ty cI cB cS cJ cF cG) (zs tt) := C
  subst hkl hkD
  have hrc : (kR K).cells = 0 := by rw [hkR]
  have hrs : (kR K).slots = 0 := by rw [hkR]
  refine gw_iload_n C 1 dX9_showState_0 rfl rfl ?_
  refine gw_istore_n C (lv2 := [(2, iN (s)), (0, .ref (sa 0)), (1, iN (s))]) dX9_showState_1 rfl (by omega) rfl ?_
  refine gw_aload_n C 1 dX9_showState_2 rfl rfl ?_
  refine gw_get C 0 4 in_X9_showState_X9 dX9_showState_3 lk_X9_showState_21 rfl rfl (by decide) rfl rfl ?_
  refine gw_alen C 2 4 (2) dX9_showState_6 rfl rfl rfl ?_
  refine gw_iconst C 1 dX9_showState_7 (by decide) ?_
  refine gw_isub C dX9_showState_8 (by omega) ?_
  refine gw_istore_n C (lv2 := [(3, iN ((2) - (1))), (2, iN (s)), (0, .ref (sa 0)), (1, iN (s))]) dX9_showState_9 rfl (by omega) rfl ?_
  refine gw_lv (lv2 := [(3, iN 1), (2, iN s), (0, .ref (sa 0))]) [0, 1, 2] rfl ?_
  refine gw_iload_n C 0 dX9_showState_10 rfl rfl ?_
  refine gw_if_lt C 49 dX9_showState_11 (by decide) (by omega) (fun h94 => ?_) (fun h94 => ?_)
  · exact absurd h94 (by decide)
  refine gw_aload_n C 2 dX9_showState_14 rfl rfl ?_
  refine gw_get C 0 5 in_X9_showState_X9 dX9_showState_15 lk_X9_showState_25 rfl rfl (by decide) rfl rfl ?_
  refine gw_iload_n C 0 dX9_showState_18 rfl rfl ?_
  refine gw_iload_n C 1 dX9_showState_19 rfl rfl ?_
  refine gw_aload_n C 2 dX9_showState_20 rfl rfl ?_
  refine gw_get C 0 4 in_X9_showState_X9 dX9_showState_21 lk_X9_showState_21 rfl rfl (by decide) rfl rfl ?_
  refine gw_iload_n C 0 dX9_showState_24 rfl rfl ?_
  refine gw_ald C (v := .ref (sa 20)) 2 4 dX9_showState_25 rfl rfl (by decide) (by decide) rfl ?_
  refine gw_get C 8 1 in_X9_showState_X8 dX9_showState_26 lk_X9_showState_86 rfl rfl (by decide) rfl rfl ?_
  refine gw_irem C dX9_showState_29 (by omega) (by omega) (by omega) ?_
  refine gw_istN C (ws2 := [(sa 0, .inr (7, [.ref (sa 1), iN (4), iN (5), iN (2048), .ref (sa 2), .ref (sa 3), nv])), (sa 1, .inl (cI, 15, .inl (fun j => nI (Wy j)))), (sa 2, .inl (cF, 2, .inr (.inr (.inr (.inr (fq_ sa 2)))))), (sa 3, .inl (cI, 16 * 2, .inl (fun j => nI ((up1 Nm (1) ((s) % (495))) j)))), x1, x2, (sa 10, .inr (2, [iN (1), iN (2187), .ref (sa 11)])), (sa 11, .inl (cI, 13122, .inl (fun j => nI ((nx 0) j)))), (sa 20, .inr (6, [iN (0), iN (495), .ref (sa 21), iN (2), iN (12)])), (sa 21, .inl (cI, 2970, .inl (fun j => nI ((nx 1) j))))]) 3 0 dX9_showState_30 rfl rfl (by first | decide | omega) (by omega) rfl ?_
  refine gw_iload_n C 1 dX9_showState_31 rfl rfl ?_
  refine gw_aload_n C 2 dX9_showState_32 rfl rfl ?_
  refine gw_get C 0 4 in_X9_showState_X9 dX9_showState_33 lk_X9_showState_21 rfl rfl (by decide) rfl rfl ?_
  refine gw_iload_n C 0 dX9_showState_36 rfl rfl ?_
  refine gw_ald C (v := .ref (sa 20)) 2 4 dX9_showState_37 rfl rfl (by decide) (by decide) rfl ?_
  refine gw_get C 8 1 in_X9_showState_X8 dX9_showState_38 lk_X9_showState_86 rfl rfl (by decide) rfl rfl ?_
  refine gw_idiv C dX9_showState_41 (by omega) (by omega) (by omega) ?_
  refine gw_istore_n C (lv2 := [(2, iN ((s) / (495))), (3, iN (1)), (0, .ref (sa 0))]) dX9_showState_42 rfl (by omega) rfl ?_
  refine gw_iinc C (v := nI (0)) (lv2 := [(3, iN (0)), (2, iN ((s) / (495))), (0, .ref (sa 0))]) 1 dX9_showState_43 rfl (by decide) (by omega) rfl ?_
  refine gw_goto C 10 dX9_showState_46 (by decide) ?_
  refine gw_ws (ws2 := [(sa 0, .inr (7, [.ref (sa 1), iN (4), iN (5), iN (2048), .ref (sa 2), .ref (sa 3), nv])), (sa 1, .inl (cI, 15, .inl (fun j => nI (Wy j)))), (sa 2, .inl (cF, 2, .inr (.inr (.inr (.inr (fq_ sa 2)))))), (sa 3, .inl (cI, 16 * 2, .inl (fun j => nI ((ss_N sz1 2 s Nm 1) j)))), x1, x2, (sa 10, .inr (2, [iN (1), iN (2187), .ref (sa 11)])), (sa 11, .inl (cI, 13122, .inl (fun j => nI ((nx 0) j)))), (sa 20, .inr (6, [iN (0), iN (495), .ref (sa 21), iN (2), iN (12)])), (sa 21, .inl (cI, 2970, .inl (fun j => nI ((nx 1) j))))]) rfl ?_
  refine gw_iload_n C 0 dX9_showState_10 rfl rfl ?_
  refine gw_if_lt C 49 dX9_showState_11 (by decide) (by omega) (fun h95 => ?_) (fun h95 => ?_)
  · exact absurd h95 (by decide)
  refine gw_aload_n C 2 dX9_showState_14 rfl rfl ?_
  refine gw_get C 0 5 in_X9_showState_X9 dX9_showState_15 lk_X9_showState_25 rfl rfl (by decide) rfl rfl ?_
  refine gw_iload_n C 0 dX9_showState_18 rfl rfl ?_
  refine gw_iload_n C 1 dX9_showState_19 rfl rfl ?_
  refine gw_aload_n C 2 dX9_showState_20 rfl rfl ?_
  refine gw_get C 0 4 in_X9_showState_X9 dX9_showState_21 lk_X9_showState_21 rfl rfl (by decide) rfl rfl ?_
  refine gw_iload_n C 0 dX9_showState_24 rfl rfl ?_
  refine gw_ald C (v := .ref (sa 10)) 2 4 dX9_showState_25 rfl rfl (by decide) (by decide) rfl ?_
  refine gw_get C 6 1 in_X9_showState_X3 dX9_showState_26 lk_X9_showState_86 rfl rfl (by decide) rfl rfl ?_
  refine gw_irem C dX9_showState_29 (by omega) (by omega) (by omega) ?_
  refine gw_istN C (ws2 := [(sa 0, .inr (7, [.ref (sa 1), iN (4), iN (5), iN (2048), .ref (sa 2), .ref (sa 3), nv])), (sa 1, .inl (cI, 15, .inl (fun j => nI (Wy j)))), (sa 2, .inl (cF, 2, .inr (.inr (.inr (.inr (fq_ sa 2)))))), (sa 3, .inl (cI, 16 * 2, .inl (fun j => nI ((up1 (ss_N sz1 2 s Nm 1) (0) (((s) / (495)) % (2187))) j)))), x1, x2, (sa 10, .inr (2, [iN (1), iN (2187), .ref (sa 11)])), (sa 11, .inl (cI, 13122, .inl (fun j => nI ((nx 0) j)))), (sa 20, .inr (6, [iN (0), iN (495), .ref (sa 21), iN (2), iN (12)])), (sa 21, .inl (cI, 2970, .inl (fun j => nI ((nx 1) j))))]) 3 0 dX9_showState_30 rfl rfl (by first | decide | omega) (by omega) rfl ?_
  refine gw_iload_n C 1 dX9_showState_31 rfl rfl ?_
  refine gw_aload_n C 2 dX9_showState_32 rfl rfl ?_
  refine gw_get C 0 4 in_X9_showState_X9 dX9_showState_33 lk_X9_showState_21 rfl rfl (by decide) rfl rfl ?_
  refine gw_iload_n C 0 dX9_showState_36 rfl rfl ?_
  refine gw_ald C (v := .ref (sa 10)) 2 4 dX9_showState_37 rfl rfl (by decide) (by decide) rfl ?_
  refine gw_get C 6 1 in_X9_showState_X3 dX9_showState_38 lk_X9_showState_86 rfl rfl (by decide) rfl rfl ?_
  refine gw_idiv C dX9_showState_41 (by omega) (by omega) (by omega) ?_
  refine gw_istore_n C (lv2 := [(2, iN (((s) / (495)) / (2187))), (3, iN (0)), (0, .ref (sa 0))]) dX9_showState_42 rfl (by omega) rfl ?_
  refine gw_iinc C (v := nI (4294967295)) (lv2 := [(3, iN (4294967295)), (2, iN (((s) / (495)) / (2187))), (0, .ref (sa 0))]) 1 dX9_showState_43 rfl (by decide) (by omega) rfl ?_
  refine gw_goto C 10 dX9_showState_46 (by decide) ?_
  refine gw_ws (ws2 := [(sa 0, .inr (7, [.ref (sa 1), iN (4), iN (5), iN (2048), .ref (sa 2), .ref (sa 3), nv])), (sa 1, .inl (cI, 15, .inl (fun j => nI (Wy j)))), (sa 2, .inl (cF, 2, .inr (.inr (.inr (.inr (fq_ sa 2)))))), (sa 3, .inl (cI, 16 * 2, .inl (fun j => nI ((ss_N sz1 2 s Nm 2) j)))), x1, x2, (sa 10, .inr (2, [iN (1), iN (2187), .ref (sa 11)])), (sa 11, .inl (cI, 13122, .inl (fun j => nI ((nx 0) j)))), (sa 20, .inr (6, [iN (0), iN (495), .ref (sa 21), iN (2), iN (12)])), (sa 21, .inl (cI, 2970, .inl (fun j => nI ((nx 1) j))))]) rfl ?_
  refine gw_iload_n C 0 dX9_showState_10 rfl rfl ?_
  refine gw_if_lt32 C 49 dX9_showState_11 (by decide) (by omega) (fun h96 => ?_) (fun h96 => ?_)
  rotate_left
  · exact absurd h96 (by decide)
  exact ret () dX9_showState_49 trivial rfl (Nat.le_refl 0) (Nat.le_refl 0)
set_option maxHeartbeats 4000000 in
set_option maxRecDepth 100000 in
theorem c_stateAt20 (l : Launch) (D : va_G) (cI cB cS cJ cF cG : ClassId) (tt : Nat → Nat) (sa : Nat → Nat) (Wy Nm : Nat → Nat) (nv : Value) (sc nx : Nat → Nat → Nat) (d : Nat) (hd : d ≤ 15) : gw_CI (S := Unit) l yX9_stateAt wsX9_stateAt 0 0 0 0 D (mo_ty cI cB cS cJ cF cG) (zs tt) (sg_ws cI cF sa 2 2 7 4096 (nv) (Wy) (Nm) (fu2_ws cI sa sc)) [.ref (sa 0), iN d] (fun r _ => r = nI (sa_ sz2 Nm (d * 2) 2)) (fun _ => sg_ws cI cF sa 2 2 7 4096 (nv) (Wy) (Nm) (fu2_ws cI sa sc)) := by
  refine gw_CI.of (cc := cX9_stateAt) (maxL := 5) (rt := .int) (zs_ok tt) (by decide) rfl (Nat.le_of_ble_eq_true rfl) ?_
  intro K C hkl hkn hkR hkD hmn ret
  have C : gw_x K cX9_stateAt RX9 wsX9_stateAt (mo_ty cI cB cS cJ cF cG) (zs tt) := C
  subst hkl hkD
  have hrc : (kR K).cells = 0 := by rw [hkR]
  have hrs : (kR K).slots = 0 := by rw [hkR]
  refine gw_iload_n C 1 dX9_stateAt_0 rfl rfl ?_
  refine gw_aload_n C 0 dX9_stateAt_1 rfl rfl ?_
  refine gw_get C 0 4 in_X9_stateAt_X9 dX9_stateAt_2 lk_X9_stateAt_21 rfl rfl (by decide) rfl rfl ?_
  refine gw_alen C 2 4 (2) dX9_stateAt_5 rfl rfl rfl ?_
  refine gw_imul C dX9_stateAt_6 ?_
  refine gw_istore_n C (lv2 := [(2, iN ((d) * (2))), (0, .ref (sa 0)), (1, iN (d))]) dX9_stateAt_7 rfl (by omega) rfl ?_
  refine gw_iconst C 0 dX9_stateAt_8 (by decide) ?_
  refine gw_istore_n C (lv2 := [(3, iN (0)), (2, iN ((d) * (2))), (0, .ref (sa 0)), (1, iN (d))]) dX9_stateAt_9 rfl (by omega) rfl ?_
  refine gw_iconst C 0 dX9_stateAt_10 (by decide) ?_
  refine gw_istore C (lv2 := [(4, iN (0)), (3, iN (0)), (2, iN ((d) * (2))), (0, .ref (sa 0)), (1, iN (d))]) dX9_stateAt_11 (by omega) rfl ?_
  refine gw_iload C 0 dX9_stateAt_13 rfl ?_
  refine gw_aload_n C 3 dX9_stateAt_15 rfl rfl ?_
  refine gw_get C 0 4 in_X9_stateAt_X9 dX9_stateAt_16 lk_X9_stateAt_21 rfl rfl (by decide) rfl rfl ?_
  refine gw_alen C 2 4 (2) dX9_stateAt_19 rfl rfl rfl ?_
  refine gw_icmp_ge C 52 dX9_stateAt_20 (by decide) (by omega) (by omega) (fun h97 => ?_) (fun h97 => ?_)
  · exact absurd h97 (by decide)
  refine gw_iload_n C 1 dX9_stateAt_23 rfl rfl ?_
  refine gw_aload_n C 3 dX9_stateAt_24 rfl rfl ?_
  refine gw_get C 0 4 in_X9_stateAt_X9 dX9_stateAt_25 lk_X9_stateAt_21 rfl rfl (by decide) rfl rfl ?_
  refine gw_iload C 0 dX9_stateAt_28 rfl ?_
  refine gw_ald C (v := .ref (sa 10)) 2 4 dX9_stateAt_30 rfl rfl (by decide) (by decide) rfl ?_
  refine gw_get C 4 1 in_X9_stateAt_X6 dX9_stateAt_31 lk_X9_stateAt_86 rfl rfl (by decide) rfl rfl ?_
  refine gw_imul C dX9_stateAt_34 ?_
  refine gw_aload_n C 3 dX9_stateAt_35 rfl rfl ?_
  refine gw_get C 0 5 in_X9_stateAt_X9 dX9_stateAt_36 lk_X9_stateAt_25 rfl rfl (by decide) rfl rfl ?_
  refine gw_iload_n C 2 dX9_stateAt_39 rfl rfl ?_
  refine gw_iload C 0 dX9_stateAt_40 rfl ?_
  refine gw_iadd C dX9_stateAt_42 ?_
  refine gw_ild C (v := nI (Nm (((d) * (2)) + (0)))) 3 0 dX9_stateAt_43 rfl rfl (by first | decide | omega) (by omega) rfl ?_
  refine gw_iadd C dX9_stateAt_44 ?_
  refine gw_istore_n C (lv2 := [(3, iN (((0) * (420)) + (Nm (((d) * (2)) + (0))))), (4, iN (0)), (2, iN ((d) * (2))), (0, .ref (sa 0)), (1, iN (d))]) dX9_stateAt_45 rfl (by omega) rfl ?_
  refine gw_iinc C (v := nI (1)) (lv2 := [(4, iN (1)), (3, iN (((0) * (420)) + (Nm (((d) * (2)) + (0))))), (2, iN ((d) * (2))), (0, .ref (sa 0)), (1, iN (d))]) 1 dX9_stateAt_46 rfl (by decide) (by omega) rfl ?_
  refine gw_goto C 13 dX9_stateAt_49 (by decide) ?_
  refine gw_iload C 0 dX9_stateAt_13 rfl ?_
  refine gw_aload_n C 3 dX9_stateAt_15 rfl rfl ?_
  refine gw_get C 0 4 in_X9_stateAt_X9 dX9_stateAt_16 lk_X9_stateAt_21 rfl rfl (by decide) rfl rfl ?_
  refine gw_alen C 2 4 (2) dX9_stateAt_19 rfl rfl rfl ?_
  refine gw_icmp_ge C 52 dX9_stateAt_20 (by decide) (by omega) (by omega) (fun h98 => ?_) (fun h98 => ?_)
  · exact absurd h98 (by decide)
  refine gw_iload_n C 1 dX9_stateAt_23 rfl rfl ?_
  refine gw_aload_n C 3 dX9_stateAt_24 rfl rfl ?_
  refine gw_get C 0 4 in_X9_stateAt_X9 dX9_stateAt_25 lk_X9_stateAt_21 rfl rfl (by decide) rfl rfl ?_
  refine gw_iload C 0 dX9_stateAt_28 rfl ?_
  refine gw_ald C (v := .ref (sa 20)) 2 4 dX9_stateAt_30 rfl rfl (by decide) (by decide) rfl ?_
  refine gw_get C 8 1 in_X9_stateAt_X8 dX9_stateAt_31 lk_X9_stateAt_86 rfl rfl (by decide) rfl rfl ?_
  refine gw_imul C dX9_stateAt_34 ?_
  refine gw_aload_n C 3 dX9_stateAt_35 rfl rfl ?_
  refine gw_get C 0 5 in_X9_stateAt_X9 dX9_stateAt_36 lk_X9_stateAt_25 rfl rfl (by decide) rfl rfl ?_
  refine gw_iload_n C 2 dX9_stateAt_39 rfl rfl ?_
  refine gw_iload C 0 dX9_stateAt_40 rfl ?_
  refine gw_iadd C dX9_stateAt_42 ?_
  refine gw_ild C (v := nI (Nm (((d) * (2)) + (1)))) 3 0 dX9_stateAt_43 rfl rfl (by first | decide | omega) (by omega) rfl ?_
  refine gw_iadd C dX9_stateAt_44 ?_
  refine gw_istore_n C (lv2 := [(3, iN (((((0) * (420)) + (Nm (((d) * (2)) + (0)))) * (70)) + (Nm (((d) * (2)) + (1))))), (4, iN (1)), (2, iN ((d) * (2))), (0, .ref (sa 0)), (1, iN (d))]) dX9_stateAt_45 rfl (by omega) rfl ?_
  refine gw_iinc C (v := nI (2)) (lv2 := [(4, iN (2)), (3, iN (((((0) * (420)) + (Nm (((d) * (2)) + (0)))) * (70)) + (Nm (((d) * (2)) + (1))))), (2, iN ((d) * (2))), (0, .ref (sa 0)), (1, iN (d))]) 1 dX9_stateAt_46 rfl (by decide) (by omega) rfl ?_
  refine gw_goto C 13 dX9_stateAt_49 (by decide) ?_
  refine gw_iload C 0 dX9_stateAt_13 rfl ?_
  refine gw_aload_n C 3 dX9_stateAt_15 rfl rfl ?_
  refine gw_get C 0 4 in_X9_stateAt_X9 dX9_stateAt_16 lk_X9_stateAt_21 rfl rfl (by decide) rfl rfl ?_
  refine gw_alen C 2 4 (2) dX9_stateAt_19 rfl rfl rfl ?_
  refine gw_icmp_ge C 52 dX9_stateAt_20 (by decide) (by omega) (by omega) (fun h99 => ?_) (fun h99 => ?_)
  rotate_left
  · exact absurd h99 (by decide)
  refine gw_iload_n C 1 dX9_stateAt_52 rfl rfl ?_
  exact ret () dX9_stateAt_53 rfl rfl rfl (Nat.le_refl 0) (Nat.le_refl 0)
set_option maxHeartbeats 4000000 in
set_option maxRecDepth 100000 in
theorem c_stateAt21 (l : Launch) (D : va_G) (cI cB cS cJ cF cG : ClassId) (tt : Nat → Nat) (sa : Nat → Nat) (Wy Nm : Nat → Nat) (nv : Value) (sc nx : Nat → Nat → Nat) (x1 : Nat × va_E) (d : Nat) (hd : d ≤ 15) : gw_CI (S := Unit) l yX9_stateAt wsX9_stateAt 0 0 0 0 D (mo_ty cI cB cS cJ cF cG) (zs tt) (sg_ws cI cF sa 2 2 7 4096 (nv) (Wy) (Nm) (x1 :: fl2_ws cI sa sc nx)) [.ref (sa 0), iN d] (fun r _ => r = nI (sa_ sz2 Nm (d * 2) 2)) (fun _ => sg_ws cI cF sa 2 2 7 4096 (nv) (Wy) (Nm) (x1 :: fl2_ws cI sa sc nx)) := by
  refine gw_CI.of (cc := cX9_stateAt) (maxL := 5) (rt := .int) (zs_ok tt) (by decide) rfl (Nat.le_of_ble_eq_true rfl) ?_
  intro K C hkl hkn hkR hkD hmn ret
  have C : gw_x K cX9_stateAt RX9 wsX9_stateAt (mo_ty cI cB cS cJ cF cG) (zs tt) := C
  subst hkl hkD
  have hrc : (kR K).cells = 0 := by rw [hkR]
  have hrs : (kR K).slots = 0 := by rw [hkR]
  refine gw_iload_n C 1 dX9_stateAt_0 rfl rfl ?_
  refine gw_aload_n C 0 dX9_stateAt_1 rfl rfl ?_
  refine gw_get C 0 4 in_X9_stateAt_X9 dX9_stateAt_2 lk_X9_stateAt_21 rfl rfl (by decide) rfl rfl ?_
  refine gw_alen C 2 4 (2) dX9_stateAt_5 rfl rfl rfl ?_
  refine gw_imul C dX9_stateAt_6 ?_
  refine gw_istore_n C (lv2 := [(2, iN ((d) * (2))), (0, .ref (sa 0)), (1, iN (d))]) dX9_stateAt_7 rfl (by omega) rfl ?_
  refine gw_iconst C 0 dX9_stateAt_8 (by decide) ?_
  refine gw_istore_n C (lv2 := [(3, iN (0)), (2, iN ((d) * (2))), (0, .ref (sa 0)), (1, iN (d))]) dX9_stateAt_9 rfl (by omega) rfl ?_
  refine gw_iconst C 0 dX9_stateAt_10 (by decide) ?_
  refine gw_istore C (lv2 := [(4, iN (0)), (3, iN (0)), (2, iN ((d) * (2))), (0, .ref (sa 0)), (1, iN (d))]) dX9_stateAt_11 (by omega) rfl ?_
  refine gw_iload C 0 dX9_stateAt_13 rfl ?_
  refine gw_aload_n C 3 dX9_stateAt_15 rfl rfl ?_
  refine gw_get C 0 4 in_X9_stateAt_X9 dX9_stateAt_16 lk_X9_stateAt_21 rfl rfl (by decide) rfl rfl ?_
  refine gw_alen C 2 4 (2) dX9_stateAt_19 rfl rfl rfl ?_
  refine gw_icmp_ge C 52 dX9_stateAt_20 (by decide) (by omega) (by omega) (fun h100 => ?_) (fun h100 => ?_)
  · exact absurd h100 (by decide)
  refine gw_iload_n C 1 dX9_stateAt_23 rfl rfl ?_
  refine gw_aload_n C 3 dX9_stateAt_24 rfl rfl ?_
  refine gw_get C 0 4 in_X9_stateAt_X9 dX9_stateAt_25 lk_X9_stateAt_21 rfl rfl (by decide) rfl rfl ?_
  refine gw_iload C 0 dX9_stateAt_28 rfl ?_
  refine gw_ald C (v := .ref (sa 10)) 2 4 dX9_stateAt_30 rfl rfl (by decide) (by decide) rfl ?_
  refine gw_get C 5 1 in_X9_stateAt_X6 dX9_stateAt_31 lk_X9_stateAt_86 rfl rfl (by decide) rfl rfl ?_
  refine gw_imul C dX9_stateAt_34 ?_
  refine gw_aload_n C 3 dX9_stateAt_35 rfl rfl ?_
  refine gw_get C 0 5 in_X9_stateAt_X9 dX9_stateAt_36 lk_X9_stateAt_25 rfl rfl (by decide) rfl rfl ?_
  refine gw_iload_n C 2 dX9_stateAt_39 rfl rfl ?_
  refine gw_iload C 0 dX9_stateAt_40 rfl ?_
  refine gw_iadd C dX9_stateAt_42 ?_
  refine gw_ild C (v := nI (Nm (((d) * (2)) + (0)))) 3 0 dX9_stateAt_43 rfl rfl (by first | decide | omega) (by omega) rfl ?_
  refine gw_iadd C dX9_stateAt_44 ?_
  refine gw_istore_n C (lv2 := [(3, iN (((0) * (420)) + (Nm (((d) * (2)) + (0))))), (4, iN (0)), (2, iN ((d) * (2))), (0, .ref (sa 0)), (1, iN (d))]) dX9_stateAt_45 rfl (by omega) rfl ?_
  refine gw_iinc C (v := nI (1)) (lv2 := [(4, iN (1)), (3, iN (((0) * (420)) + (Nm (((d) * (2)) + (0))))), (2, iN ((d) * (2))), (0, .ref (sa 0)), (1, iN (d))]) 1 dX9_stateAt_46 rfl (by decide) (by omega) rfl ?_
  refine gw_goto C 13 dX9_stateAt_49 (by decide) ?_
  refine gw_iload C 0 dX9_stateAt_13 rfl ?_
  refine gw_aload_n C 3 dX9_stateAt_15 rfl rfl ?_
  refine gw_get C 0 4 in_X9_stateAt_X9 dX9_stateAt_16 lk_X9_stateAt_21 rfl rfl (by decide) rfl rfl ?_
  refine gw_alen C 2 4 (2) dX9_stateAt_19 rfl rfl rfl ?_
  refine gw_icmp_ge C 52 dX9_stateAt_20 (by decide) (by omega) (by omega) (fun h101 => ?_) (fun h101 => ?_)
  · exact absurd h101 (by decide)
  refine gw_iload_n C 1 dX9_stateAt_23 rfl rfl ?_
  refine gw_aload_n C 3 dX9_stateAt_24 rfl rfl ?_
  refine gw_get C 0 4 in_X9_stateAt_X9 dX9_stateAt_25 lk_X9_stateAt_21 rfl rfl (by decide) rfl rfl ?_
  refine gw_iload C 0 dX9_stateAt_28 rfl ?_
  refine gw_ald C (v := .ref (sa 20)) 2 4 dX9_stateAt_30 rfl rfl (by decide) (by decide) rfl ?_
  refine gw_get C 10 1 in_X9_stateAt_X8 dX9_stateAt_31 lk_X9_stateAt_86 rfl rfl (by decide) rfl rfl ?_
  refine gw_imul C dX9_stateAt_34 ?_
  refine gw_aload_n C 3 dX9_stateAt_35 rfl rfl ?_
  refine gw_get C 0 5 in_X9_stateAt_X9 dX9_stateAt_36 lk_X9_stateAt_25 rfl rfl (by decide) rfl rfl ?_
  refine gw_iload_n C 2 dX9_stateAt_39 rfl rfl ?_
  refine gw_iload C 0 dX9_stateAt_40 rfl ?_
  refine gw_iadd C dX9_stateAt_42 ?_
  refine gw_ild C (v := nI (Nm (((d) * (2)) + (1)))) 3 0 dX9_stateAt_43 rfl rfl (by first | decide | omega) (by omega) rfl ?_
  refine gw_iadd C dX9_stateAt_44 ?_
  refine gw_istore_n C (lv2 := [(3, iN (((((0) * (420)) + (Nm (((d) * (2)) + (0)))) * (70)) + (Nm (((d) * (2)) + (1))))), (4, iN (1)), (2, iN ((d) * (2))), (0, .ref (sa 0)), (1, iN (d))]) dX9_stateAt_45 rfl (by omega) rfl ?_
  refine gw_iinc C (v := nI (2)) (lv2 := [(4, iN (2)), (3, iN (((((0) * (420)) + (Nm (((d) * (2)) + (0)))) * (70)) + (Nm (((d) * (2)) + (1))))), (2, iN ((d) * (2))), (0, .ref (sa 0)), (1, iN (d))]) 1 dX9_stateAt_46 rfl (by decide) (by omega) rfl ?_
  refine gw_goto C 13 dX9_stateAt_49 (by decide) ?_
  refine gw_iload C 0 dX9_stateAt_13 rfl ?_
  refine gw_aload_n C 3 dX9_stateAt_15 rfl rfl ?_
  refine gw_get C 0 4 in_X9_stateAt_X9 dX9_stateAt_16 lk_X9_stateAt_21 rfl rfl (by decide) rfl rfl ?_
  refine gw_alen C 2 4 (2) dX9_stateAt_19 rfl rfl rfl ?_
  refine gw_icmp_ge C 52 dX9_stateAt_20 (by decide) (by omega) (by omega) (fun h102 => ?_) (fun h102 => ?_)
  rotate_left
  · exact absurd h102 (by decide)
  refine gw_iload_n C 1 dX9_stateAt_52 rfl rfl ?_
  exact ret () dX9_stateAt_53 rfl rfl rfl (Nat.le_refl 0) (Nat.le_refl 0)
set_option maxHeartbeats 4000000 in
set_option maxRecDepth 100000 in
theorem c_advance21 (l : Launch) (D : va_G) (cI cB cS cJ cF cG : ClassId) (tt : Nat → Nat) (sa : Nat → Nat) (Wy Nm : Nat → Nat) (nv : Value) (sc nx : Nat → Nat → Nat) (x1 : Nat × va_E) (d fc : Nat) (hd : d ≤ 15) (hf : fc < 6) (h0 : Nm (d * 2 + 0) < 420) (h1 : Nm (d * 2 + 1) < 70) : gw_CV (S := Unit) l yX9_advance wsX9_advance 0 0 0 0 D (mo_ty cI cB cS cJ cF cG) (zs tt) (sg_ws cI cF sa 2 2 7 4096 (nv) (Wy) (Nm) (x1 :: fl2_ws cI sa sc nx)) [.ref (sa 0), iN d, iN fc] (fun _ => True) (fun _ => sg_ws cI cF sa 2 2 7 4096 (nv) (Wy) (ad_ nx (d * 2) fc Nm 2) (x1 :: fl2_ws cI sa sc nx)) := by
  refine gw_CV.of (cc := cX9_advance) (maxL := 5) (zs_ok tt) (by decide) rfl (Nat.le_of_ble_eq_true rfl) ?_
  intro K C hkl hkn hkR hkD hmn ret
  have C : gw_x K cX9_advance RX9 wsX9_advance (mo_ty cI cB cS cJ cF cG) (zs tt) := C
  subst hkl hkD
  have hrc : (kR K).cells = 0 := by rw [hkR]
  have hrs : (kR K).slots = 0 := by rw [hkR]
  obtain ⟨b, eb⟩ : ∃ b, b = d * 2 := ⟨_, rfl⟩
  rw [← eb] at h0 h1
  refine gw_iload_n C 1 dX9_advance_0 rfl rfl ?_
  refine gw_aload_n C 0 dX9_advance_1 rfl rfl ?_
  refine gw_get C 0 4 in_X9_advance_X9 dX9_advance_2 lk_X9_advance_21 rfl rfl (by decide) rfl rfl ?_
  refine gw_alen C 2 4 (2) dX9_advance_5 rfl rfl rfl ?_
  refine gw_imul C dX9_advance_6 ?_
  refine gw_istore_n C (lv2 := [(3, iN ((d) * (2))), (0, .ref (sa 0)), (1, iN (d)), (2, iN (fc))]) dX9_advance_7 rfl (by omega) rfl ?_
  refine gw_iconst C 0 dX9_advance_8 (by decide) ?_
  refine gw_istore C (lv2 := [(4, iN (0)), (3, iN ((d) * (2))), (0, .ref (sa 0)), (1, iN (d)), (2, iN (fc))]) dX9_advance_9 (by omega) rfl ?_
  rw [← eb]
  refine gw_iload C 0 dX9_advance_11 rfl ?_
  refine gw_aload_n C 2 dX9_advance_13 rfl rfl ?_
  refine gw_get C 0 4 in_X9_advance_X9 dX9_advance_14 lk_X9_advance_21 rfl rfl (by decide) rfl rfl ?_
  refine gw_alen C 2 4 (2) dX9_advance_17 rfl rfl rfl ?_
  refine gw_icmp_ge C 61 dX9_advance_18 (by decide) (by omega) (by omega) (fun h103 => ?_) (fun h103 => ?_)
  · exact absurd h103 (by decide)
  have f0 : ad_ nx b fc Nm 0 (b + 0) < 420 := by rw [ad_fix nx b fc Nm 0 _ (by omega)]; exact h0
  refine gw_aload_n C 2 dX9_advance_21 rfl rfl ?_
  refine gw_get C 0 5 in_X9_advance_X9 dX9_advance_22 lk_X9_advance_25 rfl rfl (by decide) rfl rfl ?_
  refine gw_iload_n C 1 dX9_advance_25 rfl rfl ?_
  refine gw_iload C 0 dX9_advance_26 rfl ?_
  refine gw_iadd C dX9_advance_28 ?_
  refine gw_aload_n C 2 dX9_advance_29 rfl rfl ?_
  refine gw_get C 0 4 in_X9_advance_X9 dX9_advance_30 lk_X9_advance_21 rfl rfl (by decide) rfl rfl ?_
  refine gw_iload C 0 dX9_advance_33 rfl ?_
  refine gw_ald C (v := .ref (sa 10)) 2 4 dX9_advance_35 rfl rfl (by decide) (by decide) rfl ?_
  refine gw_get C 5 2 in_X9_advance_X6 dX9_advance_36 lk_X9_advance_83 rfl rfl (by decide) rfl rfl ?_
  refine gw_bipush C 6 dX9_advance_39 (by decide) ?_
  refine gw_aload_n C 2 dX9_advance_41 rfl rfl ?_
  refine gw_get C 0 5 in_X9_advance_X9 dX9_advance_42 lk_X9_advance_25 rfl rfl (by decide) rfl rfl ?_
  refine gw_iload_n C 1 dX9_advance_45 rfl rfl ?_
  refine gw_iload C 0 dX9_advance_46 rfl ?_
  refine gw_iadd C dX9_advance_48 ?_
  refine gw_ild C (v := nI (Nm ((b) + (0)))) 3 0 dX9_advance_49 rfl rfl (by first | decide | omega) (by omega) rfl ?_
  refine gw_imul C dX9_advance_50 ?_
  refine gw_iload_n C 4 dX9_advance_51 rfl rfl ?_
  refine gw_iadd C dX9_advance_52 ?_
  refine gw_ild C (v := nI ((nx 0) (((6) * (Nm ((b) + (0)))) + (fc)))) 9 0 dX9_advance_53 rfl rfl (by first | decide | omega) (by omega) rfl ?_
  refine gw_istN C (ws2 := [(sa 0, .inr (7, [.ref (sa 1), iN (2), iN (7), iN (4096), .ref (sa 2), .ref (sa 3), nv])), (sa 1, .inl (cI, 15, .inl (fun j => nI (Wy j)))), (sa 2, .inl (cF, 2, .inr (.inr (.inr (.inr (fq_ sa 2)))))), (sa 3, .inl (cI, 16 * 2, .inl (fun j => nI ((up1 Nm ((b) + (0)) ((nx 0) (((6) * (Nm ((b) + (0)))) + (fc)))) j)))), x1, (sa 10, .inr (4, [iN (1), iN (420), .ref (sa 11), .ref (sa 12), .ref (sa 13), .ref (sa 14)])), (sa 12, .inl (cI, 8, .inl (fun j => nI ((sc 0) j)))), (sa 13, .inl (cI, 8, .inl (fun j => nI ((sc 1) j)))), (sa 14, .inl (cI, 4, .inl (fun j => nI ((sc 2) j)))), (sa 11, .inl (cI, 2520, .inl (fun j => nI ((nx 0) j)))), (sa 20, .inr (6, [iN (0), iN (70), .ref (sa 21), iN (0), iN (8)])), (sa 21, .inl (cI, 420, .inl (fun j => nI ((nx 1) j))))]) 3 0 dX9_advance_54 rfl rfl (by first | decide | omega) (by omega) rfl ?_
  refine gw_iinc C (v := nI (1)) (lv2 := [(4, iN (1)), (3, iN (b)), (0, .ref (sa 0)), (1, iN (d)), (2, iN (fc))]) 0 dX9_advance_55 rfl (by decide) (by omega) rfl ?_
  refine gw_goto C 11 dX9_advance_58 (by decide) ?_
  refine gw_ws (ws2 := [(sa 0, .inr (7, [.ref (sa 1), iN (2), iN (7), iN (4096), .ref (sa 2), .ref (sa 3), nv])), (sa 1, .inl (cI, 15, .inl (fun j => nI (Wy j)))), (sa 2, .inl (cF, 2, .inr (.inr (.inr (.inr (fq_ sa 2)))))), (sa 3, .inl (cI, 16 * 2, .inl (fun j => nI ((ad_ nx b fc Nm 1) j)))), x1, (sa 10, .inr (4, [iN (1), iN (420), .ref (sa 11), .ref (sa 12), .ref (sa 13), .ref (sa 14)])), (sa 12, .inl (cI, 8, .inl (fun j => nI ((sc 0) j)))), (sa 13, .inl (cI, 8, .inl (fun j => nI ((sc 1) j)))), (sa 14, .inl (cI, 4, .inl (fun j => nI ((sc 2) j)))), (sa 11, .inl (cI, 2520, .inl (fun j => nI ((nx 0) j)))), (sa 20, .inr (6, [iN (0), iN (70), .ref (sa 21), iN (0), iN (8)])), (sa 21, .inl (cI, 420, .inl (fun j => nI ((nx 1) j))))]) rfl ?_
  refine gw_iload C 0 dX9_advance_11 rfl ?_
  refine gw_aload_n C 2 dX9_advance_13 rfl rfl ?_
  refine gw_get C 0 4 in_X9_advance_X9 dX9_advance_14 lk_X9_advance_21 rfl rfl (by decide) rfl rfl ?_
  refine gw_alen C 2 4 (2) dX9_advance_17 rfl rfl rfl ?_
  refine gw_icmp_ge C 61 dX9_advance_18 (by decide) (by omega) (by omega) (fun h104 => ?_) (fun h104 => ?_)
  · exact absurd h104 (by decide)
  have f1 : ad_ nx b fc Nm 1 (b + 1) < 70 := by rw [ad_fix nx b fc Nm 1 _ (by omega)]; exact h1
  refine gw_aload_n C 2 dX9_advance_21 rfl rfl ?_
  refine gw_get C 0 5 in_X9_advance_X9 dX9_advance_22 lk_X9_advance_25 rfl rfl (by decide) rfl rfl ?_
  refine gw_iload_n C 1 dX9_advance_25 rfl rfl ?_
  refine gw_iload C 0 dX9_advance_26 rfl ?_
  refine gw_iadd C dX9_advance_28 ?_
  refine gw_aload_n C 2 dX9_advance_29 rfl rfl ?_
  refine gw_get C 0 4 in_X9_advance_X9 dX9_advance_30 lk_X9_advance_21 rfl rfl (by decide) rfl rfl ?_
  refine gw_iload C 0 dX9_advance_33 rfl ?_
  refine gw_ald C (v := .ref (sa 20)) 2 4 dX9_advance_35 rfl rfl (by decide) (by decide) rfl ?_
  refine gw_get C 10 2 in_X9_advance_X8 dX9_advance_36 lk_X9_advance_83 rfl rfl (by decide) rfl rfl ?_
  refine gw_bipush C 6 dX9_advance_39 (by decide) ?_
  refine gw_aload_n C 2 dX9_advance_41 rfl rfl ?_
  refine gw_get C 0 5 in_X9_advance_X9 dX9_advance_42 lk_X9_advance_25 rfl rfl (by decide) rfl rfl ?_
  refine gw_iload_n C 1 dX9_advance_45 rfl rfl ?_
  refine gw_iload C 0 dX9_advance_46 rfl ?_
  refine gw_iadd C dX9_advance_48 ?_
  refine gw_ild C (v := nI ((ad_ nx b fc Nm 1) ((b) + (1)))) 3 0 dX9_advance_49 rfl rfl (by first | decide | omega) (by omega) rfl ?_
  refine gw_imul C dX9_advance_50 ?_
  refine gw_iload_n C 4 dX9_advance_51 rfl rfl ?_
  refine gw_iadd C dX9_advance_52 ?_
  refine gw_ild C (v := nI ((nx 1) (((6) * ((ad_ nx b fc Nm 1) ((b) + (1)))) + (fc)))) 11 0 dX9_advance_53 rfl rfl (by first | decide | omega) (by omega) rfl ?_
  refine gw_istN C (ws2 := [(sa 0, .inr (7, [.ref (sa 1), iN (2), iN (7), iN (4096), .ref (sa 2), .ref (sa 3), nv])), (sa 1, .inl (cI, 15, .inl (fun j => nI (Wy j)))), (sa 2, .inl (cF, 2, .inr (.inr (.inr (.inr (fq_ sa 2)))))), (sa 3, .inl (cI, 16 * 2, .inl (fun j => nI ((up1 (ad_ nx b fc Nm 1) ((b) + (1)) ((nx 1) (((6) * ((ad_ nx b fc Nm 1) ((b) + (1)))) + (fc)))) j)))), x1, (sa 10, .inr (4, [iN (1), iN (420), .ref (sa 11), .ref (sa 12), .ref (sa 13), .ref (sa 14)])), (sa 12, .inl (cI, 8, .inl (fun j => nI ((sc 0) j)))), (sa 13, .inl (cI, 8, .inl (fun j => nI ((sc 1) j)))), (sa 14, .inl (cI, 4, .inl (fun j => nI ((sc 2) j)))), (sa 11, .inl (cI, 2520, .inl (fun j => nI ((nx 0) j)))), (sa 20, .inr (6, [iN (0), iN (70), .ref (sa 21), iN (0), iN (8)])), (sa 21, .inl (cI, 420, .inl (fun j => nI ((nx 1) j))))]) 3 0 dX9_advance_54 rfl rfl (by first | decide | omega) (by omega) rfl ?_
  refine gw_iinc C (v := nI (2)) (lv2 := [(4, iN (2)), (3, iN (b)), (0, .ref (sa 0)), (1, iN (d)), (2, iN (fc))]) 0 dX9_advance_55 rfl (by decide) (by omega) rfl ?_
  refine gw_goto C 11 dX9_advance_58 (by decide) ?_
  refine gw_ws (ws2 := [(sa 0, .inr (7, [.ref (sa 1), iN (2), iN (7), iN (4096), .ref (sa 2), .ref (sa 3), nv])), (sa 1, .inl (cI, 15, .inl (fun j => nI (Wy j)))), (sa 2, .inl (cF, 2, .inr (.inr (.inr (.inr (fq_ sa 2)))))), (sa 3, .inl (cI, 16 * 2, .inl (fun j => nI ((ad_ nx b fc Nm 2) j)))), x1, (sa 10, .inr (4, [iN (1), iN (420), .ref (sa 11), .ref (sa 12), .ref (sa 13), .ref (sa 14)])), (sa 12, .inl (cI, 8, .inl (fun j => nI ((sc 0) j)))), (sa 13, .inl (cI, 8, .inl (fun j => nI ((sc 1) j)))), (sa 14, .inl (cI, 4, .inl (fun j => nI ((sc 2) j)))), (sa 11, .inl (cI, 2520, .inl (fun j => nI ((nx 0) j)))), (sa 20, .inr (6, [iN (0), iN (70), .ref (sa 21), iN (0), iN (8)])), (sa 21, .inl (cI, 420, .inl (fun j => nI ((nx 1) j))))]) rfl ?_
  refine gw_iload C 0 dX9_advance_11 rfl ?_
  refine gw_aload_n C 2 dX9_advance_13 rfl rfl ?_
  refine gw_get C 0 4 in_X9_advance_X9 dX9_advance_14 lk_X9_advance_21 rfl rfl (by decide) rfl rfl ?_
  refine gw_alen C 2 4 (2) dX9_advance_17 rfl rfl rfl ?_
  refine gw_icmp_ge C 61 dX9_advance_18 (by decide) (by omega) (by omega) (fun h105 => ?_) (fun h105 => ?_)
  rotate_left
  · exact absurd h105 (by decide)
  exact ret () dX9_advance_61 trivial (by rw [eb]; rfl) (Nat.le_refl 0) (Nat.le_refl 0)
set_option maxHeartbeats 4000000 in
set_option maxRecDepth 100000 in
theorem c_stateAt22 (l : Launch) (D : va_G) (cI cB cS cJ cF cG : ClassId) (tt : Nat → Nat) (sa : Nat → Nat) (Wy Nm : Nat → Nat) (nv : Value) (sc nx : Nat → Nat → Nat) (x1 : Nat × va_E) (x2 : Nat × va_E) (d : Nat) (hd : d ≤ 15) : gw_CI (S := Unit) l yX9_stateAt wsX9_stateAt 0 0 0 0 D (mo_ty cI cB cS cJ cF cG) (zs tt) (sg_ws cI cF sa 2 2 7 4096 (nv) (Wy) (Nm) (x1 :: x2 :: fl2_ws cI sa sc nx)) [.ref (sa 0), iN d] (fun r _ => r = nI (sa_ sz2 Nm (d * 2) 2)) (fun _ => sg_ws cI cF sa 2 2 7 4096 (nv) (Wy) (Nm) (x1 :: x2 :: fl2_ws cI sa sc nx)) := by
  refine gw_CI.of (cc := cX9_stateAt) (maxL := 5) (rt := .int) (zs_ok tt) (by decide) rfl (Nat.le_of_ble_eq_true rfl) ?_
  intro K C hkl hkn hkR hkD hmn ret
  have C : gw_x K cX9_stateAt RX9 wsX9_stateAt (mo_ty cI cB cS cJ cF cG) (zs tt) := C
  subst hkl hkD
  have hrc : (kR K).cells = 0 := by rw [hkR]
  have hrs : (kR K).slots = 0 := by rw [hkR]
  refine gw_iload_n C 1 dX9_stateAt_0 rfl rfl ?_
  refine gw_aload_n C 0 dX9_stateAt_1 rfl rfl ?_
  refine gw_get C 0 4 in_X9_stateAt_X9 dX9_stateAt_2 lk_X9_stateAt_21 rfl rfl (by decide) rfl rfl ?_
  refine gw_alen C 2 4 (2) dX9_stateAt_5 rfl rfl rfl ?_
  refine gw_imul C dX9_stateAt_6 ?_
  refine gw_istore_n C (lv2 := [(2, iN ((d) * (2))), (0, .ref (sa 0)), (1, iN (d))]) dX9_stateAt_7 rfl (by omega) rfl ?_
  refine gw_iconst C 0 dX9_stateAt_8 (by decide) ?_
  refine gw_istore_n C (lv2 := [(3, iN (0)), (2, iN ((d) * (2))), (0, .ref (sa 0)), (1, iN (d))]) dX9_stateAt_9 rfl (by omega) rfl ?_
  refine gw_iconst C 0 dX9_stateAt_10 (by decide) ?_
  refine gw_istore C (lv2 := [(4, iN (0)), (3, iN (0)), (2, iN ((d) * (2))), (0, .ref (sa 0)), (1, iN (d))]) dX9_stateAt_11 (by omega) rfl ?_
  refine gw_iload C 0 dX9_stateAt_13 rfl ?_
  refine gw_aload_n C 3 dX9_stateAt_15 rfl rfl ?_
  refine gw_get C 0 4 in_X9_stateAt_X9 dX9_stateAt_16 lk_X9_stateAt_21 rfl rfl (by decide) rfl rfl ?_
  refine gw_alen C 2 4 (2) dX9_stateAt_19 rfl rfl rfl ?_
  refine gw_icmp_ge C 52 dX9_stateAt_20 (by decide) (by omega) (by omega) (fun h106 => ?_) (fun h106 => ?_)
  · exact absurd h106 (by decide)
  refine gw_iload_n C 1 dX9_stateAt_23 rfl rfl ?_
  refine gw_aload_n C 3 dX9_stateAt_24 rfl rfl ?_
  refine gw_get C 0 4 in_X9_stateAt_X9 dX9_stateAt_25 lk_X9_stateAt_21 rfl rfl (by decide) rfl rfl ?_
  refine gw_iload C 0 dX9_stateAt_28 rfl ?_
  refine gw_ald C (v := .ref (sa 10)) 2 4 dX9_stateAt_30 rfl rfl (by decide) (by decide) rfl ?_
  refine gw_get C 6 1 in_X9_stateAt_X6 dX9_stateAt_31 lk_X9_stateAt_86 rfl rfl (by decide) rfl rfl ?_
  refine gw_imul C dX9_stateAt_34 ?_
  refine gw_aload_n C 3 dX9_stateAt_35 rfl rfl ?_
  refine gw_get C 0 5 in_X9_stateAt_X9 dX9_stateAt_36 lk_X9_stateAt_25 rfl rfl (by decide) rfl rfl ?_
  refine gw_iload_n C 2 dX9_stateAt_39 rfl rfl ?_
  refine gw_iload C 0 dX9_stateAt_40 rfl ?_
  refine gw_iadd C dX9_stateAt_42 ?_
  refine gw_ild C (v := nI (Nm (((d) * (2)) + (0)))) 3 0 dX9_stateAt_43 rfl rfl (by first | decide | omega) (by omega) rfl ?_
  refine gw_iadd C dX9_stateAt_44 ?_
  refine gw_istore_n C (lv2 := [(3, iN (((0) * (420)) + (Nm (((d) * (2)) + (0))))), (4, iN (0)), (2, iN ((d) * (2))), (0, .ref (sa 0)), (1, iN (d))]) dX9_stateAt_45 rfl (by omega) rfl ?_
  refine gw_iinc C (v := nI (1)) (lv2 := [(4, iN (1)), (3, iN (((0) * (420)) + (Nm (((d) * (2)) + (0))))), (2, iN ((d) * (2))), (0, .ref (sa 0)), (1, iN (d))]) 1 dX9_stateAt_46 rfl (by decide) (by omega) rfl ?_
  refine gw_goto C 13 dX9_stateAt_49 (by decide) ?_
  refine gw_iload C 0 dX9_stateAt_13 rfl ?_
  refine gw_aload_n C 3 dX9_stateAt_15 rfl rfl ?_
  refine gw_get C 0 4 in_X9_stateAt_X9 dX9_stateAt_16 lk_X9_stateAt_21 rfl rfl (by decide) rfl rfl ?_
  refine gw_alen C 2 4 (2) dX9_stateAt_19 rfl rfl rfl ?_
  refine gw_icmp_ge C 52 dX9_stateAt_20 (by decide) (by omega) (by omega) (fun h107 => ?_) (fun h107 => ?_)
  · exact absurd h107 (by decide)
  refine gw_iload_n C 1 dX9_stateAt_23 rfl rfl ?_
  refine gw_aload_n C 3 dX9_stateAt_24 rfl rfl ?_
  refine gw_get C 0 4 in_X9_stateAt_X9 dX9_stateAt_25 lk_X9_stateAt_21 rfl rfl (by decide) rfl rfl ?_
  refine gw_iload C 0 dX9_stateAt_28 rfl ?_
  refine gw_ald C (v := .ref (sa 20)) 2 4 dX9_stateAt_30 rfl rfl (by decide) (by decide) rfl ?_
  refine gw_get C 11 1 in_X9_stateAt_X8 dX9_stateAt_31 lk_X9_stateAt_86 rfl rfl (by decide) rfl rfl ?_
  refine gw_imul C dX9_stateAt_34 ?_
  refine gw_aload_n C 3 dX9_stateAt_35 rfl rfl ?_
  refine gw_get C 0 5 in_X9_stateAt_X9 dX9_stateAt_36 lk_X9_stateAt_25 rfl rfl (by decide) rfl rfl ?_
  refine gw_iload_n C 2 dX9_stateAt_39 rfl rfl ?_
  refine gw_iload C 0 dX9_stateAt_40 rfl ?_
  refine gw_iadd C dX9_stateAt_42 ?_
  refine gw_ild C (v := nI (Nm (((d) * (2)) + (1)))) 3 0 dX9_stateAt_43 rfl rfl (by first | decide | omega) (by omega) rfl ?_
  refine gw_iadd C dX9_stateAt_44 ?_
  refine gw_istore_n C (lv2 := [(3, iN (((((0) * (420)) + (Nm (((d) * (2)) + (0)))) * (70)) + (Nm (((d) * (2)) + (1))))), (4, iN (1)), (2, iN ((d) * (2))), (0, .ref (sa 0)), (1, iN (d))]) dX9_stateAt_45 rfl (by omega) rfl ?_
  refine gw_iinc C (v := nI (2)) (lv2 := [(4, iN (2)), (3, iN (((((0) * (420)) + (Nm (((d) * (2)) + (0)))) * (70)) + (Nm (((d) * (2)) + (1))))), (2, iN ((d) * (2))), (0, .ref (sa 0)), (1, iN (d))]) 1 dX9_stateAt_46 rfl (by decide) (by omega) rfl ?_
  refine gw_goto C 13 dX9_stateAt_49 (by decide) ?_
  refine gw_iload C 0 dX9_stateAt_13 rfl ?_
  refine gw_aload_n C 3 dX9_stateAt_15 rfl rfl ?_
  refine gw_get C 0 4 in_X9_stateAt_X9 dX9_stateAt_16 lk_X9_stateAt_21 rfl rfl (by decide) rfl rfl ?_
  refine gw_alen C 2 4 (2) dX9_stateAt_19 rfl rfl rfl ?_
  refine gw_icmp_ge C 52 dX9_stateAt_20 (by decide) (by omega) (by omega) (fun h108 => ?_) (fun h108 => ?_)
  rotate_left
  · exact absurd h108 (by decide)
  refine gw_iload_n C 1 dX9_stateAt_52 rfl rfl ?_
  exact ret () dX9_stateAt_53 rfl rfl rfl (Nat.le_refl 0) (Nat.le_refl 0)
set_option maxHeartbeats 4000000 in
set_option maxRecDepth 100000 in
theorem c_advance22 (l : Launch) (D : va_G) (cI cB cS cJ cF cG : ClassId) (tt : Nat → Nat) (sa : Nat → Nat) (Wy Nm : Nat → Nat) (nv : Value) (sc nx : Nat → Nat → Nat) (x1 : Nat × va_E) (x2 : Nat × va_E) (d fc : Nat) (hd : d ≤ 15) (hf : fc < 6) (h0 : Nm (d * 2 + 0) < 420) (h1 : Nm (d * 2 + 1) < 70) : gw_CV (S := Unit) l yX9_advance wsX9_advance 0 0 0 0 D (mo_ty cI cB cS cJ cF cG) (zs tt) (sg_ws cI cF sa 2 2 7 4096 (nv) (Wy) (Nm) (x1 :: x2 :: fl2_ws cI sa sc nx)) [.ref (sa 0), iN d, iN fc] (fun _ => True) (fun _ => sg_ws cI cF sa 2 2 7 4096 (nv) (Wy) (ad_ nx (d * 2) fc Nm 2) (x1 :: x2 :: fl2_ws cI sa sc nx)) := by
  refine gw_CV.of (cc := cX9_advance) (maxL := 5) (zs_ok tt) (by decide) rfl (Nat.le_of_ble_eq_true rfl) ?_
  intro K C hkl hkn hkR hkD hmn ret
  have C : gw_x K cX9_advance RX9 wsX9_advance (mo_ty cI cB cS cJ cF cG) (zs tt) := C
  subst hkl hkD
  have hrc : (kR K).cells = 0 := by rw [hkR]
  have hrs : (kR K).slots = 0 := by rw [hkR]
  obtain ⟨b, eb⟩ : ∃ b, b = d * 2 := ⟨_, rfl⟩
  rw [← eb] at h0 h1
  refine gw_iload_n C 1 dX9_advance_0 rfl rfl ?_
  refine gw_aload_n C 0 dX9_advance_1 rfl rfl ?_
  refine gw_get C 0 4 in_X9_advance_X9 dX9_advance_2 lk_X9_advance_21 rfl rfl (by decide) rfl rfl ?_
  refine gw_alen C 2 4 (2) dX9_advance_5 rfl rfl rfl ?_
  refine gw_imul C dX9_advance_6 ?_
  refine gw_istore_n C (lv2 := [(3, iN ((d) * (2))), (0, .ref (sa 0)), (1, iN (d)), (2, iN (fc))]) dX9_advance_7 rfl (by omega) rfl ?_
  refine gw_iconst C 0 dX9_advance_8 (by decide) ?_
  refine gw_istore C (lv2 := [(4, iN (0)), (3, iN ((d) * (2))), (0, .ref (sa 0)), (1, iN (d)), (2, iN (fc))]) dX9_advance_9 (by omega) rfl ?_
  rw [← eb]
  refine gw_iload C 0 dX9_advance_11 rfl ?_
  refine gw_aload_n C 2 dX9_advance_13 rfl rfl ?_
  refine gw_get C 0 4 in_X9_advance_X9 dX9_advance_14 lk_X9_advance_21 rfl rfl (by decide) rfl rfl ?_
  refine gw_alen C 2 4 (2) dX9_advance_17 rfl rfl rfl ?_
  refine gw_icmp_ge C 61 dX9_advance_18 (by decide) (by omega) (by omega) (fun h109 => ?_) (fun h109 => ?_)
  · exact absurd h109 (by decide)
  have f0 : ad_ nx b fc Nm 0 (b + 0) < 420 := by rw [ad_fix nx b fc Nm 0 _ (by omega)]; exact h0
  refine gw_aload_n C 2 dX9_advance_21 rfl rfl ?_
  refine gw_get C 0 5 in_X9_advance_X9 dX9_advance_22 lk_X9_advance_25 rfl rfl (by decide) rfl rfl ?_
  refine gw_iload_n C 1 dX9_advance_25 rfl rfl ?_
  refine gw_iload C 0 dX9_advance_26 rfl ?_
  refine gw_iadd C dX9_advance_28 ?_
  refine gw_aload_n C 2 dX9_advance_29 rfl rfl ?_
  refine gw_get C 0 4 in_X9_advance_X9 dX9_advance_30 lk_X9_advance_21 rfl rfl (by decide) rfl rfl ?_
  refine gw_iload C 0 dX9_advance_33 rfl ?_
  refine gw_ald C (v := .ref (sa 10)) 2 4 dX9_advance_35 rfl rfl (by decide) (by decide) rfl ?_
  refine gw_get C 6 2 in_X9_advance_X6 dX9_advance_36 lk_X9_advance_83 rfl rfl (by decide) rfl rfl ?_
  refine gw_bipush C 6 dX9_advance_39 (by decide) ?_
  refine gw_aload_n C 2 dX9_advance_41 rfl rfl ?_
  refine gw_get C 0 5 in_X9_advance_X9 dX9_advance_42 lk_X9_advance_25 rfl rfl (by decide) rfl rfl ?_
  refine gw_iload_n C 1 dX9_advance_45 rfl rfl ?_
  refine gw_iload C 0 dX9_advance_46 rfl ?_
  refine gw_iadd C dX9_advance_48 ?_
  refine gw_ild C (v := nI (Nm ((b) + (0)))) 3 0 dX9_advance_49 rfl rfl (by first | decide | omega) (by omega) rfl ?_
  refine gw_imul C dX9_advance_50 ?_
  refine gw_iload_n C 4 dX9_advance_51 rfl rfl ?_
  refine gw_iadd C dX9_advance_52 ?_
  refine gw_ild C (v := nI ((nx 0) (((6) * (Nm ((b) + (0)))) + (fc)))) 10 0 dX9_advance_53 rfl rfl (by first | decide | omega) (by omega) rfl ?_
  refine gw_istN C (ws2 := [(sa 0, .inr (7, [.ref (sa 1), iN (2), iN (7), iN (4096), .ref (sa 2), .ref (sa 3), nv])), (sa 1, .inl (cI, 15, .inl (fun j => nI (Wy j)))), (sa 2, .inl (cF, 2, .inr (.inr (.inr (.inr (fq_ sa 2)))))), (sa 3, .inl (cI, 16 * 2, .inl (fun j => nI ((up1 Nm ((b) + (0)) ((nx 0) (((6) * (Nm ((b) + (0)))) + (fc)))) j)))), x1, x2, (sa 10, .inr (4, [iN (1), iN (420), .ref (sa 11), .ref (sa 12), .ref (sa 13), .ref (sa 14)])), (sa 12, .inl (cI, 8, .inl (fun j => nI ((sc 0) j)))), (sa 13, .inl (cI, 8, .inl (fun j => nI ((sc 1) j)))), (sa 14, .inl (cI, 4, .inl (fun j => nI ((sc 2) j)))), (sa 11, .inl (cI, 2520, .inl (fun j => nI ((nx 0) j)))), (sa 20, .inr (6, [iN (0), iN (70), .ref (sa 21), iN (0), iN (8)])), (sa 21, .inl (cI, 420, .inl (fun j => nI ((nx 1) j))))]) 3 0 dX9_advance_54 rfl rfl (by first | decide | omega) (by omega) rfl ?_
  refine gw_iinc C (v := nI (1)) (lv2 := [(4, iN (1)), (3, iN (b)), (0, .ref (sa 0)), (1, iN (d)), (2, iN (fc))]) 0 dX9_advance_55 rfl (by decide) (by omega) rfl ?_
  refine gw_goto C 11 dX9_advance_58 (by decide) ?_
  refine gw_ws (ws2 := [(sa 0, .inr (7, [.ref (sa 1), iN (2), iN (7), iN (4096), .ref (sa 2), .ref (sa 3), nv])), (sa 1, .inl (cI, 15, .inl (fun j => nI (Wy j)))), (sa 2, .inl (cF, 2, .inr (.inr (.inr (.inr (fq_ sa 2)))))), (sa 3, .inl (cI, 16 * 2, .inl (fun j => nI ((ad_ nx b fc Nm 1) j)))), x1, x2, (sa 10, .inr (4, [iN (1), iN (420), .ref (sa 11), .ref (sa 12), .ref (sa 13), .ref (sa 14)])), (sa 12, .inl (cI, 8, .inl (fun j => nI ((sc 0) j)))), (sa 13, .inl (cI, 8, .inl (fun j => nI ((sc 1) j)))), (sa 14, .inl (cI, 4, .inl (fun j => nI ((sc 2) j)))), (sa 11, .inl (cI, 2520, .inl (fun j => nI ((nx 0) j)))), (sa 20, .inr (6, [iN (0), iN (70), .ref (sa 21), iN (0), iN (8)])), (sa 21, .inl (cI, 420, .inl (fun j => nI ((nx 1) j))))]) rfl ?_
  refine gw_iload C 0 dX9_advance_11 rfl ?_
  refine gw_aload_n C 2 dX9_advance_13 rfl rfl ?_
  refine gw_get C 0 4 in_X9_advance_X9 dX9_advance_14 lk_X9_advance_21 rfl rfl (by decide) rfl rfl ?_
  refine gw_alen C 2 4 (2) dX9_advance_17 rfl rfl rfl ?_
  refine gw_icmp_ge C 61 dX9_advance_18 (by decide) (by omega) (by omega) (fun h110 => ?_) (fun h110 => ?_)
  · exact absurd h110 (by decide)
  have f1 : ad_ nx b fc Nm 1 (b + 1) < 70 := by rw [ad_fix nx b fc Nm 1 _ (by omega)]; exact h1
  refine gw_aload_n C 2 dX9_advance_21 rfl rfl ?_
  refine gw_get C 0 5 in_X9_advance_X9 dX9_advance_22 lk_X9_advance_25 rfl rfl (by decide) rfl rfl ?_
  refine gw_iload_n C 1 dX9_advance_25 rfl rfl ?_
  refine gw_iload C 0 dX9_advance_26 rfl ?_
  refine gw_iadd C dX9_advance_28 ?_
  refine gw_aload_n C 2 dX9_advance_29 rfl rfl ?_
  refine gw_get C 0 4 in_X9_advance_X9 dX9_advance_30 lk_X9_advance_21 rfl rfl (by decide) rfl rfl ?_
  refine gw_iload C 0 dX9_advance_33 rfl ?_
  refine gw_ald C (v := .ref (sa 20)) 2 4 dX9_advance_35 rfl rfl (by decide) (by decide) rfl ?_
  refine gw_get C 11 2 in_X9_advance_X8 dX9_advance_36 lk_X9_advance_83 rfl rfl (by decide) rfl rfl ?_
  refine gw_bipush C 6 dX9_advance_39 (by decide) ?_
  refine gw_aload_n C 2 dX9_advance_41 rfl rfl ?_
  refine gw_get C 0 5 in_X9_advance_X9 dX9_advance_42 lk_X9_advance_25 rfl rfl (by decide) rfl rfl ?_
  refine gw_iload_n C 1 dX9_advance_45 rfl rfl ?_
  refine gw_iload C 0 dX9_advance_46 rfl ?_
  refine gw_iadd C dX9_advance_48 ?_
  refine gw_ild C (v := nI ((ad_ nx b fc Nm 1) ((b) + (1)))) 3 0 dX9_advance_49 rfl rfl (by first | decide | omega) (by omega) rfl ?_
  refine gw_imul C dX9_advance_50 ?_
  refine gw_iload_n C 4 dX9_advance_51 rfl rfl ?_
  refine gw_iadd C dX9_advance_52 ?_
  refine gw_ild C (v := nI ((nx 1) (((6) * ((ad_ nx b fc Nm 1) ((b) + (1)))) + (fc)))) 12 0 dX9_advance_53 rfl rfl (by first | decide | omega) (by omega) rfl ?_
  refine gw_istN C (ws2 := [(sa 0, .inr (7, [.ref (sa 1), iN (2), iN (7), iN (4096), .ref (sa 2), .ref (sa 3), nv])), (sa 1, .inl (cI, 15, .inl (fun j => nI (Wy j)))), (sa 2, .inl (cF, 2, .inr (.inr (.inr (.inr (fq_ sa 2)))))), (sa 3, .inl (cI, 16 * 2, .inl (fun j => nI ((up1 (ad_ nx b fc Nm 1) ((b) + (1)) ((nx 1) (((6) * ((ad_ nx b fc Nm 1) ((b) + (1)))) + (fc)))) j)))), x1, x2, (sa 10, .inr (4, [iN (1), iN (420), .ref (sa 11), .ref (sa 12), .ref (sa 13), .ref (sa 14)])), (sa 12, .inl (cI, 8, .inl (fun j => nI ((sc 0) j)))), (sa 13, .inl (cI, 8, .inl (fun j => nI ((sc 1) j)))), (sa 14, .inl (cI, 4, .inl (fun j => nI ((sc 2) j)))), (sa 11, .inl (cI, 2520, .inl (fun j => nI ((nx 0) j)))), (sa 20, .inr (6, [iN (0), iN (70), .ref (sa 21), iN (0), iN (8)])), (sa 21, .inl (cI, 420, .inl (fun j => nI ((nx 1) j))))]) 3 0 dX9_advance_54 rfl rfl (by first | decide | omega) (by omega) rfl ?_
  refine gw_iinc C (v := nI (2)) (lv2 := [(4, iN (2)), (3, iN (b)), (0, .ref (sa 0)), (1, iN (d)), (2, iN (fc))]) 0 dX9_advance_55 rfl (by decide) (by omega) rfl ?_
  refine gw_goto C 11 dX9_advance_58 (by decide) ?_
  refine gw_ws (ws2 := [(sa 0, .inr (7, [.ref (sa 1), iN (2), iN (7), iN (4096), .ref (sa 2), .ref (sa 3), nv])), (sa 1, .inl (cI, 15, .inl (fun j => nI (Wy j)))), (sa 2, .inl (cF, 2, .inr (.inr (.inr (.inr (fq_ sa 2)))))), (sa 3, .inl (cI, 16 * 2, .inl (fun j => nI ((ad_ nx b fc Nm 2) j)))), x1, x2, (sa 10, .inr (4, [iN (1), iN (420), .ref (sa 11), .ref (sa 12), .ref (sa 13), .ref (sa 14)])), (sa 12, .inl (cI, 8, .inl (fun j => nI ((sc 0) j)))), (sa 13, .inl (cI, 8, .inl (fun j => nI ((sc 1) j)))), (sa 14, .inl (cI, 4, .inl (fun j => nI ((sc 2) j)))), (sa 11, .inl (cI, 2520, .inl (fun j => nI ((nx 0) j)))), (sa 20, .inr (6, [iN (0), iN (70), .ref (sa 21), iN (0), iN (8)])), (sa 21, .inl (cI, 420, .inl (fun j => nI ((nx 1) j))))]) rfl ?_
  refine gw_iload C 0 dX9_advance_11 rfl ?_
  refine gw_aload_n C 2 dX9_advance_13 rfl rfl ?_
  refine gw_get C 0 4 in_X9_advance_X9 dX9_advance_14 lk_X9_advance_21 rfl rfl (by decide) rfl rfl ?_
  refine gw_alen C 2 4 (2) dX9_advance_17 rfl rfl rfl ?_
  refine gw_icmp_ge C 61 dX9_advance_18 (by decide) (by omega) (by omega) (fun h111 => ?_) (fun h111 => ?_)
  rotate_left
  · exact absurd h111 (by decide)
  exact ret () dX9_advance_61 trivial (by rw [eb]; rfl) (Nat.le_refl 0) (Nat.le_refl 0)
set_option maxHeartbeats 4000000 in
set_option maxRecDepth 100000 in
theorem c_showState2 (l : Launch) (D : va_G) (cI cB cS cJ cF cG : ClassId) (tt : Nat → Nat) (sa : Nat → Nat) (Wy Nm : Nat → Nat) (nv : Value) (sc nx : Nat → Nat → Nat) (x1 : Nat × va_E) (x2 : Nat × va_E) (s : Nat) (hs : s < 2 ^ 31) : gw_CV (S := Unit) l yX9_showState wsX9_showState 0 0 0 0 D (mo_ty cI cB cS cJ cF cG) (zs tt) (sg_ws cI cF sa 2 2 7 4096 (nv) (Wy) (Nm) (x1 :: x2 :: fl2_ws cI sa sc nx)) [.ref (sa 0), iN s] (fun _ => True) (fun _ => sg_ws cI cF sa 2 2 7 4096 (nv) (Wy) (ss_N sz2 2 s Nm 2) (x1 :: x2 :: fl2_ws cI sa sc nx)) := by
  refine gw_CV.of (cc := cX9_showState) (maxL := 4) (zs_ok tt) (by decide) rfl (Nat.le_of_ble_eq_true rfl) ?_
  intro K C hkl hkn hkR hkD hmn ret
  have C : gw_x K cX9_showState RX9 wsX9_showState (mo_ty cI cB cS cJ cF cG) (zs tt) := C
  subst hkl hkD
  have hrc : (kR K).cells = 0 := by rw [hkR]
  have hrs : (kR K).slots = 0 := by rw [hkR]
  refine gw_iload_n C 1 dX9_showState_0 rfl rfl ?_
  refine gw_istore_n C (lv2 := [(2, iN (s)), (0, .ref (sa 0)), (1, iN (s))]) dX9_showState_1 rfl (by omega) rfl ?_
  refine gw_aload_n C 1 dX9_showState_2 rfl rfl ?_
  refine gw_get C 0 4 in_X9_showState_X9 dX9_showState_3 lk_X9_showState_21 rfl rfl (by decide) rfl rfl ?_
  refine gw_alen C 2 4 (2) dX9_showState_6 rfl rfl rfl ?_
  refine gw_iconst C 1 dX9_showState_7 (by decide) ?_
  refine gw_isub C dX9_showState_8 (by omega) ?_
  refine gw_istore_n C (lv2 := [(3, iN ((2) - (1))), (2, iN (s)), (0, .ref (sa 0)), (1, iN (s))]) dX9_showState_9 rfl (by omega) rfl ?_
  refine gw_lv (lv2 := [(3, iN 1), (2, iN s), (0, .ref (sa 0))]) [0, 1, 2] rfl ?_
  refine gw_iload_n C 0 dX9_showState_10 rfl rfl ?_
  refine gw_if_lt C 49 dX9_showState_11 (by decide) (by omega) (fun h112 => ?_) (fun h112 => ?_)
  · exact absurd h112 (by decide)
  refine gw_aload_n C 2 dX9_showState_14 rfl rfl ?_
  refine gw_get C 0 5 in_X9_showState_X9 dX9_showState_15 lk_X9_showState_25 rfl rfl (by decide) rfl rfl ?_
  refine gw_iload_n C 0 dX9_showState_18 rfl rfl ?_
  refine gw_iload_n C 1 dX9_showState_19 rfl rfl ?_
  refine gw_aload_n C 2 dX9_showState_20 rfl rfl ?_
  refine gw_get C 0 4 in_X9_showState_X9 dX9_showState_21 lk_X9_showState_21 rfl rfl (by decide) rfl rfl ?_
  refine gw_iload_n C 0 dX9_showState_24 rfl rfl ?_
  refine gw_ald C (v := .ref (sa 20)) 2 4 dX9_showState_25 rfl rfl (by decide) (by decide) rfl ?_
  refine gw_get C 11 1 in_X9_showState_X8 dX9_showState_26 lk_X9_showState_86 rfl rfl (by decide) rfl rfl ?_
  refine gw_irem C dX9_showState_29 (by omega) (by omega) (by omega) ?_
  refine gw_istN C (ws2 := [(sa 0, .inr (7, [.ref (sa 1), iN (2), iN (7), iN (4096), .ref (sa 2), .ref (sa 3), nv])), (sa 1, .inl (cI, 15, .inl (fun j => nI (Wy j)))), (sa 2, .inl (cF, 2, .inr (.inr (.inr (.inr (fq_ sa 2)))))), (sa 3, .inl (cI, 16 * 2, .inl (fun j => nI ((up1 Nm (1) ((s) % (70))) j)))), x1, x2, (sa 10, .inr (4, [iN (1), iN (420), .ref (sa 11), .ref (sa 12), .ref (sa 13), .ref (sa 14)])), (sa 12, .inl (cI, 8, .inl (fun j => nI ((sc 0) j)))), (sa 13, .inl (cI, 8, .inl (fun j => nI ((sc 1) j)))), (sa 14, .inl (cI, 4, .inl (fun j => nI ((sc 2) j)))), (sa 11, .inl (cI, 2520, .inl (fun j => nI ((nx 0) j)))), (sa 20, .inr (6, [iN (0), iN (70), .ref (sa 21), iN (0), iN (8)])), (sa 21, .inl (cI, 420, .inl (fun j => nI ((nx 1) j))))]) 3 0 dX9_showState_30 rfl rfl (by first | decide | omega) (by omega) rfl ?_
  refine gw_iload_n C 1 dX9_showState_31 rfl rfl ?_
  refine gw_aload_n C 2 dX9_showState_32 rfl rfl ?_
  refine gw_get C 0 4 in_X9_showState_X9 dX9_showState_33 lk_X9_showState_21 rfl rfl (by decide) rfl rfl ?_
  refine gw_iload_n C 0 dX9_showState_36 rfl rfl ?_
  refine gw_ald C (v := .ref (sa 20)) 2 4 dX9_showState_37 rfl rfl (by decide) (by decide) rfl ?_
  refine gw_get C 11 1 in_X9_showState_X8 dX9_showState_38 lk_X9_showState_86 rfl rfl (by decide) rfl rfl ?_
  refine gw_idiv C dX9_showState_41 (by omega) (by omega) (by omega) ?_
  refine gw_istore_n C (lv2 := [(2, iN ((s) / (70))), (3, iN (1)), (0, .ref (sa 0))]) dX9_showState_42 rfl (by omega) rfl ?_
  refine gw_iinc C (v := nI (0)) (lv2 := [(3, iN (0)), (2, iN ((s) / (70))), (0, .ref (sa 0))]) 1 dX9_showState_43 rfl (by decide) (by omega) rfl ?_
  refine gw_goto C 10 dX9_showState_46 (by decide) ?_
  refine gw_ws (ws2 := [(sa 0, .inr (7, [.ref (sa 1), iN (2), iN (7), iN (4096), .ref (sa 2), .ref (sa 3), nv])), (sa 1, .inl (cI, 15, .inl (fun j => nI (Wy j)))), (sa 2, .inl (cF, 2, .inr (.inr (.inr (.inr (fq_ sa 2)))))), (sa 3, .inl (cI, 16 * 2, .inl (fun j => nI ((ss_N sz2 2 s Nm 1) j)))), x1, x2, (sa 10, .inr (4, [iN (1), iN (420), .ref (sa 11), .ref (sa 12), .ref (sa 13), .ref (sa 14)])), (sa 12, .inl (cI, 8, .inl (fun j => nI ((sc 0) j)))), (sa 13, .inl (cI, 8, .inl (fun j => nI ((sc 1) j)))), (sa 14, .inl (cI, 4, .inl (fun j => nI ((sc 2) j)))), (sa 11, .inl (cI, 2520, .inl (fun j => nI ((nx 0) j)))), (sa 20, .inr (6, [iN (0), iN (70), .ref (sa 21), iN (0), iN (8)])), (sa 21, .inl (cI, 420, .inl (fun j => nI ((nx 1) j))))]) rfl ?_
  refine gw_iload_n C 0 dX9_showState_10 rfl rfl ?_
  refine gw_if_lt C 49 dX9_showState_11 (by decide) (by omega) (fun h113 => ?_) (fun h113 => ?_)
  · exact absurd h113 (by decide)
  refine gw_aload_n C 2 dX9_showState_14 rfl rfl ?_
  refine gw_get C 0 5 in_X9_showState_X9 dX9_showState_15 lk_X9_showState_25 rfl rfl (by decide) rfl rfl ?_
  refine gw_iload_n C 0 dX9_showState_18 rfl rfl ?_
  refine gw_iload_n C 1 dX9_showState_19 rfl rfl ?_
  refine gw_aload_n C 2 dX9_showState_20 rfl rfl ?_
  refine gw_get C 0 4 in_X9_showState_X9 dX9_showState_21 lk_X9_showState_21 rfl rfl (by decide) rfl rfl ?_
  refine gw_iload_n C 0 dX9_showState_24 rfl rfl ?_
  refine gw_ald C (v := .ref (sa 10)) 2 4 dX9_showState_25 rfl rfl (by decide) (by decide) rfl ?_
  refine gw_get C 6 1 in_X9_showState_X6 dX9_showState_26 lk_X9_showState_86 rfl rfl (by decide) rfl rfl ?_
  refine gw_irem C dX9_showState_29 (by omega) (by omega) (by omega) ?_
  refine gw_istN C (ws2 := [(sa 0, .inr (7, [.ref (sa 1), iN (2), iN (7), iN (4096), .ref (sa 2), .ref (sa 3), nv])), (sa 1, .inl (cI, 15, .inl (fun j => nI (Wy j)))), (sa 2, .inl (cF, 2, .inr (.inr (.inr (.inr (fq_ sa 2)))))), (sa 3, .inl (cI, 16 * 2, .inl (fun j => nI ((up1 (ss_N sz2 2 s Nm 1) (0) (((s) / (70)) % (420))) j)))), x1, x2, (sa 10, .inr (4, [iN (1), iN (420), .ref (sa 11), .ref (sa 12), .ref (sa 13), .ref (sa 14)])), (sa 12, .inl (cI, 8, .inl (fun j => nI ((sc 0) j)))), (sa 13, .inl (cI, 8, .inl (fun j => nI ((sc 1) j)))), (sa 14, .inl (cI, 4, .inl (fun j => nI ((sc 2) j)))), (sa 11, .inl (cI, 2520, .inl (fun j => nI ((nx 0) j)))), (sa 20, .inr (6, [iN (0), iN (70), .ref (sa 21), iN (0), iN (8)])), (sa 21, .inl (cI, 420, .inl (fun j => nI ((nx 1) j))))]) 3 0 dX9_showState_30 rfl rfl (by first | decide | omega) (by omega) rfl ?_
  refine gw_iload_n C 1 dX9_showState_31 rfl rfl ?_
  refine gw_aload_n C 2 dX9_showState_32 rfl rfl ?_
  refine gw_get C 0 4 in_X9_showState_X9 dX9_showState_33 lk_X9_showState_21 rfl rfl (by decide) rfl rfl ?_
  refine gw_iload_n C 0 dX9_showState_36 rfl rfl ?_
  refine gw_ald C (v := .ref (sa 10)) 2 4 dX9_showState_37 rfl rfl (by decide) (by decide) rfl ?_
  refine gw_get C 6 1 in_X9_showState_X6 dX9_showState_38 lk_X9_showState_86 rfl rfl (by decide) rfl rfl ?_
  refine gw_idiv C dX9_showState_41 (by omega) (by omega) (by omega) ?_
  refine gw_istore_n C (lv2 := [(2, iN (((s) / (70)) / (420))), (3, iN (0)), (0, .ref (sa 0))]) dX9_showState_42 rfl (by omega) rfl ?_
  refine gw_iinc C (v := nI (4294967295)) (lv2 := [(3, iN (4294967295)), (2, iN (((s) / (70)) / (420))), (0, .ref (sa 0))]) 1 dX9_showState_43 rfl (by decide) (by omega) rfl ?_
  refine gw_goto C 10 dX9_showState_46 (by decide) ?_
  refine gw_ws (ws2 := [(sa 0, .inr (7, [.ref (sa 1), iN (2), iN (7), iN (4096), .ref (sa 2), .ref (sa 3), nv])), (sa 1, .inl (cI, 15, .inl (fun j => nI (Wy j)))), (sa 2, .inl (cF, 2, .inr (.inr (.inr (.inr (fq_ sa 2)))))), (sa 3, .inl (cI, 16 * 2, .inl (fun j => nI ((ss_N sz2 2 s Nm 2) j)))), x1, x2, (sa 10, .inr (4, [iN (1), iN (420), .ref (sa 11), .ref (sa 12), .ref (sa 13), .ref (sa 14)])), (sa 12, .inl (cI, 8, .inl (fun j => nI ((sc 0) j)))), (sa 13, .inl (cI, 8, .inl (fun j => nI ((sc 1) j)))), (sa 14, .inl (cI, 4, .inl (fun j => nI ((sc 2) j)))), (sa 11, .inl (cI, 2520, .inl (fun j => nI ((nx 0) j)))), (sa 20, .inr (6, [iN (0), iN (70), .ref (sa 21), iN (0), iN (8)])), (sa 21, .inl (cI, 420, .inl (fun j => nI ((nx 1) j))))]) rfl ?_
  refine gw_iload_n C 0 dX9_showState_10 rfl rfl ?_
  refine gw_if_lt32 C 49 dX9_showState_11 (by decide) (by omega) (fun h114 => ?_) (fun h114 => ?_)
  rotate_left
  · exact absurd h114 (by decide)
  exact ret () dX9_showState_49 trivial rfl (Nat.le_refl 0) (Nat.le_refl 0)
set_option maxHeartbeats 4000000 in
set_option maxRecDepth 100000 in
theorem c_stateAt30 (l : Launch) (D : va_G) (cI cB cS cJ cF cG : ClassId) (tt : Nat → Nat) (sa : Nat → Nat) (Wy Nm : Nat → Nat) (nv : Value) (sc nx : Nat → Nat → Nat) (d : Nat) (hd : d ≤ 15) : gw_CI (S := Unit) l yX9_stateAt wsX9_stateAt 0 0 0 0 D (mo_ty cI cB cS cJ cF cG) (zs tt) (sg_ws cI cF sa 4 0 7 10240 (nv) (Wy) (Nm) (fu3_ws cI sa sc)) [.ref (sa 0), iN d] (fun r _ => r = nI (sa_ sz3 Nm (d * 4) 4)) (fun _ => sg_ws cI cF sa 4 0 7 10240 (nv) (Wy) (Nm) (fu3_ws cI sa sc)) := by
  refine gw_CI.of (cc := cX9_stateAt) (maxL := 5) (rt := .int) (zs_ok tt) (by decide) rfl (Nat.le_of_ble_eq_true rfl) ?_
  intro K C hkl hkn hkR hkD hmn ret
  have C : gw_x K cX9_stateAt RX9 wsX9_stateAt (mo_ty cI cB cS cJ cF cG) (zs tt) := C
  subst hkl hkD
  have hrc : (kR K).cells = 0 := by rw [hkR]
  have hrs : (kR K).slots = 0 := by rw [hkR]
  refine gw_iload_n C 1 dX9_stateAt_0 rfl rfl ?_
  refine gw_aload_n C 0 dX9_stateAt_1 rfl rfl ?_
  refine gw_get C 0 4 in_X9_stateAt_X9 dX9_stateAt_2 lk_X9_stateAt_21 rfl rfl (by decide) rfl rfl ?_
  refine gw_alen C 2 4 (4) dX9_stateAt_5 rfl rfl rfl ?_
  refine gw_imul C dX9_stateAt_6 ?_
  refine gw_istore_n C (lv2 := [(2, iN ((d) * (4))), (0, .ref (sa 0)), (1, iN (d))]) dX9_stateAt_7 rfl (by omega) rfl ?_
  refine gw_iconst C 0 dX9_stateAt_8 (by decide) ?_
  refine gw_istore_n C (lv2 := [(3, iN (0)), (2, iN ((d) * (4))), (0, .ref (sa 0)), (1, iN (d))]) dX9_stateAt_9 rfl (by omega) rfl ?_
  refine gw_iconst C 0 dX9_stateAt_10 (by decide) ?_
  refine gw_istore C (lv2 := [(4, iN (0)), (3, iN (0)), (2, iN ((d) * (4))), (0, .ref (sa 0)), (1, iN (d))]) dX9_stateAt_11 (by omega) rfl ?_
  refine gw_iload C 0 dX9_stateAt_13 rfl ?_
  refine gw_aload_n C 3 dX9_stateAt_15 rfl rfl ?_
  refine gw_get C 0 4 in_X9_stateAt_X9 dX9_stateAt_16 lk_X9_stateAt_21 rfl rfl (by decide) rfl rfl ?_
  refine gw_alen C 2 4 (4) dX9_stateAt_19 rfl rfl rfl ?_
  refine gw_icmp_ge C 52 dX9_stateAt_20 (by decide) (by omega) (by omega) (fun h115 => ?_) (fun h115 => ?_)
  · exact absurd h115 (by decide)
  refine gw_iload_n C 1 dX9_stateAt_23 rfl rfl ?_
  refine gw_aload_n C 3 dX9_stateAt_24 rfl rfl ?_
  refine gw_get C 0 4 in_X9_stateAt_X9 dX9_stateAt_25 lk_X9_stateAt_21 rfl rfl (by decide) rfl rfl ?_
  refine gw_iload C 0 dX9_stateAt_28 rfl ?_
  refine gw_ald C (v := .ref (sa 10)) 2 4 dX9_stateAt_30 rfl rfl (by decide) (by decide) rfl ?_
  refine gw_get C 4 1 in_X9_stateAt_X0 dX9_stateAt_31 lk_X9_stateAt_86 rfl rfl (by decide) rfl rfl ?_
  refine gw_imul C dX9_stateAt_34 ?_
  refine gw_aload_n C 3 dX9_stateAt_35 rfl rfl ?_
  refine gw_get C 0 5 in_X9_stateAt_X9 dX9_stateAt_36 lk_X9_stateAt_25 rfl rfl (by decide) rfl rfl ?_
  refine gw_iload_n C 2 dX9_stateAt_39 rfl rfl ?_
  refine gw_iload C 0 dX9_stateAt_40 rfl ?_
  refine gw_iadd C dX9_stateAt_42 ?_
  refine gw_ild C (v := nI (Nm (((d) * (4)) + (0)))) 3 0 dX9_stateAt_43 rfl rfl (by first | decide | omega) (by omega) rfl ?_
  refine gw_iadd C dX9_stateAt_44 ?_
  refine gw_istore_n C (lv2 := [(3, iN (((0) * (96)) + (Nm (((d) * (4)) + (0))))), (4, iN (0)), (2, iN ((d) * (4))), (0, .ref (sa 0)), (1, iN (d))]) dX9_stateAt_45 rfl (by omega) rfl ?_
  refine gw_iinc C (v := nI (1)) (lv2 := [(4, iN (1)), (3, iN (((0) * (96)) + (Nm (((d) * (4)) + (0))))), (2, iN ((d) * (4))), (0, .ref (sa 0)), (1, iN (d))]) 1 dX9_stateAt_46 rfl (by decide) (by omega) rfl ?_
  refine gw_goto C 13 dX9_stateAt_49 (by decide) ?_
  refine gw_iload C 0 dX9_stateAt_13 rfl ?_
  refine gw_aload_n C 3 dX9_stateAt_15 rfl rfl ?_
  refine gw_get C 0 4 in_X9_stateAt_X9 dX9_stateAt_16 lk_X9_stateAt_21 rfl rfl (by decide) rfl rfl ?_
  refine gw_alen C 2 4 (4) dX9_stateAt_19 rfl rfl rfl ?_
  refine gw_icmp_ge C 52 dX9_stateAt_20 (by decide) (by omega) (by omega) (fun h116 => ?_) (fun h116 => ?_)
  · exact absurd h116 (by decide)
  refine gw_iload_n C 1 dX9_stateAt_23 rfl rfl ?_
  refine gw_aload_n C 3 dX9_stateAt_24 rfl rfl ?_
  refine gw_get C 0 4 in_X9_stateAt_X9 dX9_stateAt_25 lk_X9_stateAt_21 rfl rfl (by decide) rfl rfl ?_
  refine gw_iload C 0 dX9_stateAt_28 rfl ?_
  refine gw_ald C (v := .ref (sa 20)) 2 4 dX9_stateAt_30 rfl rfl (by decide) (by decide) rfl ?_
  refine gw_get C 6 1 in_X9_stateAt_X5 dX9_stateAt_31 lk_X9_stateAt_86 rfl rfl (by decide) rfl rfl ?_
  refine gw_imul C dX9_stateAt_34 ?_
  refine gw_aload_n C 3 dX9_stateAt_35 rfl rfl ?_
  refine gw_get C 0 5 in_X9_stateAt_X9 dX9_stateAt_36 lk_X9_stateAt_25 rfl rfl (by decide) rfl rfl ?_
  refine gw_iload_n C 2 dX9_stateAt_39 rfl rfl ?_
  refine gw_iload C 0 dX9_stateAt_40 rfl ?_
  refine gw_iadd C dX9_stateAt_42 ?_
  refine gw_ild C (v := nI (Nm (((d) * (4)) + (1)))) 3 0 dX9_stateAt_43 rfl rfl (by first | decide | omega) (by omega) rfl ?_
  refine gw_iadd C dX9_stateAt_44 ?_
  refine gw_istore_n C (lv2 := [(3, iN (((((0) * (96)) + (Nm (((d) * (4)) + (0)))) * (24)) + (Nm (((d) * (4)) + (1))))), (4, iN (1)), (2, iN ((d) * (4))), (0, .ref (sa 0)), (1, iN (d))]) dX9_stateAt_45 rfl (by omega) rfl ?_
  refine gw_iinc C (v := nI (2)) (lv2 := [(4, iN (2)), (3, iN (((((0) * (96)) + (Nm (((d) * (4)) + (0)))) * (24)) + (Nm (((d) * (4)) + (1))))), (2, iN ((d) * (4))), (0, .ref (sa 0)), (1, iN (d))]) 1 dX9_stateAt_46 rfl (by decide) (by omega) rfl ?_
  refine gw_goto C 13 dX9_stateAt_49 (by decide) ?_
  refine gw_iload C 0 dX9_stateAt_13 rfl ?_
  refine gw_aload_n C 3 dX9_stateAt_15 rfl rfl ?_
  refine gw_get C 0 4 in_X9_stateAt_X9 dX9_stateAt_16 lk_X9_stateAt_21 rfl rfl (by decide) rfl rfl ?_
  refine gw_alen C 2 4 (4) dX9_stateAt_19 rfl rfl rfl ?_
  refine gw_icmp_ge C 52 dX9_stateAt_20 (by decide) (by omega) (by omega) (fun h117 => ?_) (fun h117 => ?_)
  · exact absurd h117 (by decide)
  refine gw_iload_n C 1 dX9_stateAt_23 rfl rfl ?_
  refine gw_aload_n C 3 dX9_stateAt_24 rfl rfl ?_
  refine gw_get C 0 4 in_X9_stateAt_X9 dX9_stateAt_25 lk_X9_stateAt_21 rfl rfl (by decide) rfl rfl ?_
  refine gw_iload C 0 dX9_stateAt_28 rfl ?_
  refine gw_ald C (v := .ref (sa 30)) 2 4 dX9_stateAt_30 rfl rfl (by decide) (by decide) rfl ?_
  refine gw_get C 8 1 in_X9_stateAt_X5 dX9_stateAt_31 lk_X9_stateAt_86 rfl rfl (by decide) rfl rfl ?_
  refine gw_imul C dX9_stateAt_34 ?_
  refine gw_aload_n C 3 dX9_stateAt_35 rfl rfl ?_
  refine gw_get C 0 5 in_X9_stateAt_X9 dX9_stateAt_36 lk_X9_stateAt_25 rfl rfl (by decide) rfl rfl ?_
  refine gw_iload_n C 2 dX9_stateAt_39 rfl rfl ?_
  refine gw_iload C 0 dX9_stateAt_40 rfl ?_
  refine gw_iadd C dX9_stateAt_42 ?_
  refine gw_ild C (v := nI (Nm (((d) * (4)) + (2)))) 3 0 dX9_stateAt_43 rfl rfl (by first | decide | omega) (by omega) rfl ?_
  refine gw_iadd C dX9_stateAt_44 ?_
  refine gw_istore_n C (lv2 := [(3, iN (((((((0) * (96)) + (Nm (((d) * (4)) + (0)))) * (24)) + (Nm (((d) * (4)) + (1)))) * (24)) + (Nm (((d) * (4)) + (2))))), (4, iN (2)), (2, iN ((d) * (4))), (0, .ref (sa 0)), (1, iN (d))]) dX9_stateAt_45 rfl (by omega) rfl ?_
  refine gw_iinc C (v := nI (3)) (lv2 := [(4, iN (3)), (3, iN (((((((0) * (96)) + (Nm (((d) * (4)) + (0)))) * (24)) + (Nm (((d) * (4)) + (1)))) * (24)) + (Nm (((d) * (4)) + (2))))), (2, iN ((d) * (4))), (0, .ref (sa 0)), (1, iN (d))]) 1 dX9_stateAt_46 rfl (by decide) (by omega) rfl ?_
  refine gw_goto C 13 dX9_stateAt_49 (by decide) ?_
  refine gw_iload C 0 dX9_stateAt_13 rfl ?_
  refine gw_aload_n C 3 dX9_stateAt_15 rfl rfl ?_
  refine gw_get C 0 4 in_X9_stateAt_X9 dX9_stateAt_16 lk_X9_stateAt_21 rfl rfl (by decide) rfl rfl ?_
  refine gw_alen C 2 4 (4) dX9_stateAt_19 rfl rfl rfl ?_
  refine gw_icmp_ge C 52 dX9_stateAt_20 (by decide) (by omega) (by omega) (fun h118 => ?_) (fun h118 => ?_)
  · exact absurd h118 (by decide)
  refine gw_iload_n C 1 dX9_stateAt_23 rfl rfl ?_
  refine gw_aload_n C 3 dX9_stateAt_24 rfl rfl ?_
  refine gw_get C 0 4 in_X9_stateAt_X9 dX9_stateAt_25 lk_X9_stateAt_21 rfl rfl (by decide) rfl rfl ?_
  refine gw_iload C 0 dX9_stateAt_28 rfl ?_
  refine gw_ald C (v := .ref (sa 40)) 2 4 dX9_stateAt_30 rfl rfl (by decide) (by decide) rfl ?_
  refine gw_get C 10 1 in_X9_stateAt_X5 dX9_stateAt_31 lk_X9_stateAt_86 rfl rfl (by decide) rfl rfl ?_
  refine gw_imul C dX9_stateAt_34 ?_
  refine gw_aload_n C 3 dX9_stateAt_35 rfl rfl ?_
  refine gw_get C 0 5 in_X9_stateAt_X9 dX9_stateAt_36 lk_X9_stateAt_25 rfl rfl (by decide) rfl rfl ?_
  refine gw_iload_n C 2 dX9_stateAt_39 rfl rfl ?_
  refine gw_iload C 0 dX9_stateAt_40 rfl ?_
  refine gw_iadd C dX9_stateAt_42 ?_
  refine gw_ild C (v := nI (Nm (((d) * (4)) + (3)))) 3 0 dX9_stateAt_43 rfl rfl (by first | decide | omega) (by omega) rfl ?_
  refine gw_iadd C dX9_stateAt_44 ?_
  refine gw_istore_n C (lv2 := [(3, iN (((((((((0) * (96)) + (Nm (((d) * (4)) + (0)))) * (24)) + (Nm (((d) * (4)) + (1)))) * (24)) + (Nm (((d) * (4)) + (2)))) * (24)) + (Nm (((d) * (4)) + (3))))), (4, iN (3)), (2, iN ((d) * (4))), (0, .ref (sa 0)), (1, iN (d))]) dX9_stateAt_45 rfl (by omega) rfl ?_
  refine gw_iinc C (v := nI (4)) (lv2 := [(4, iN (4)), (3, iN (((((((((0) * (96)) + (Nm (((d) * (4)) + (0)))) * (24)) + (Nm (((d) * (4)) + (1)))) * (24)) + (Nm (((d) * (4)) + (2)))) * (24)) + (Nm (((d) * (4)) + (3))))), (2, iN ((d) * (4))), (0, .ref (sa 0)), (1, iN (d))]) 1 dX9_stateAt_46 rfl (by decide) (by omega) rfl ?_
  refine gw_goto C 13 dX9_stateAt_49 (by decide) ?_
  refine gw_iload C 0 dX9_stateAt_13 rfl ?_
  refine gw_aload_n C 3 dX9_stateAt_15 rfl rfl ?_
  refine gw_get C 0 4 in_X9_stateAt_X9 dX9_stateAt_16 lk_X9_stateAt_21 rfl rfl (by decide) rfl rfl ?_
  refine gw_alen C 2 4 (4) dX9_stateAt_19 rfl rfl rfl ?_
  refine gw_icmp_ge C 52 dX9_stateAt_20 (by decide) (by omega) (by omega) (fun h119 => ?_) (fun h119 => ?_)
  rotate_left
  · exact absurd h119 (by decide)
  refine gw_iload_n C 1 dX9_stateAt_52 rfl rfl ?_
  exact ret () dX9_stateAt_53 rfl rfl rfl (Nat.le_refl 0) (Nat.le_refl 0)
set_option maxHeartbeats 4000000 in
set_option maxRecDepth 100000 in
theorem c_stateAt31 (l : Launch) (D : va_G) (cI cB cS cJ cF cG : ClassId) (tt : Nat → Nat) (sa : Nat → Nat) (Wy Nm : Nat → Nat) (nv : Value) (sc nx : Nat → Nat → Nat) (x1 : Nat × va_E) (d : Nat) (hd : d ≤ 15) : gw_CI (S := Unit) l yX9_stateAt wsX9_stateAt 0 0 0 0 D (mo_ty cI cB cS cJ cF cG) (zs tt) (sg_ws cI cF sa 4 0 7 10240 (nv) (Wy) (Nm) (x1 :: fl3_ws cI sa sc nx)) [.ref (sa 0), iN d] (fun r _ => r = nI (sa_ sz3 Nm (d * 4) 4)) (fun _ => sg_ws cI cF sa 4 0 7 10240 (nv) (Wy) (Nm) (x1 :: fl3_ws cI sa sc nx)) := by
  refine gw_CI.of (cc := cX9_stateAt) (maxL := 5) (rt := .int) (zs_ok tt) (by decide) rfl (Nat.le_of_ble_eq_true rfl) ?_
  intro K C hkl hkn hkR hkD hmn ret
  have C : gw_x K cX9_stateAt RX9 wsX9_stateAt (mo_ty cI cB cS cJ cF cG) (zs tt) := C
  subst hkl hkD
  have hrc : (kR K).cells = 0 := by rw [hkR]
  have hrs : (kR K).slots = 0 := by rw [hkR]
  refine gw_iload_n C 1 dX9_stateAt_0 rfl rfl ?_
  refine gw_aload_n C 0 dX9_stateAt_1 rfl rfl ?_
  refine gw_get C 0 4 in_X9_stateAt_X9 dX9_stateAt_2 lk_X9_stateAt_21 rfl rfl (by decide) rfl rfl ?_
  refine gw_alen C 2 4 (4) dX9_stateAt_5 rfl rfl rfl ?_
  refine gw_imul C dX9_stateAt_6 ?_
  refine gw_istore_n C (lv2 := [(2, iN ((d) * (4))), (0, .ref (sa 0)), (1, iN (d))]) dX9_stateAt_7 rfl (by omega) rfl ?_
  refine gw_iconst C 0 dX9_stateAt_8 (by decide) ?_
  refine gw_istore_n C (lv2 := [(3, iN (0)), (2, iN ((d) * (4))), (0, .ref (sa 0)), (1, iN (d))]) dX9_stateAt_9 rfl (by omega) rfl ?_
  refine gw_iconst C 0 dX9_stateAt_10 (by decide) ?_
  refine gw_istore C (lv2 := [(4, iN (0)), (3, iN (0)), (2, iN ((d) * (4))), (0, .ref (sa 0)), (1, iN (d))]) dX9_stateAt_11 (by omega) rfl ?_
  refine gw_iload C 0 dX9_stateAt_13 rfl ?_
  refine gw_aload_n C 3 dX9_stateAt_15 rfl rfl ?_
  refine gw_get C 0 4 in_X9_stateAt_X9 dX9_stateAt_16 lk_X9_stateAt_21 rfl rfl (by decide) rfl rfl ?_
  refine gw_alen C 2 4 (4) dX9_stateAt_19 rfl rfl rfl ?_
  refine gw_icmp_ge C 52 dX9_stateAt_20 (by decide) (by omega) (by omega) (fun h120 => ?_) (fun h120 => ?_)
  · exact absurd h120 (by decide)
  refine gw_iload_n C 1 dX9_stateAt_23 rfl rfl ?_
  refine gw_aload_n C 3 dX9_stateAt_24 rfl rfl ?_
  refine gw_get C 0 4 in_X9_stateAt_X9 dX9_stateAt_25 lk_X9_stateAt_21 rfl rfl (by decide) rfl rfl ?_
  refine gw_iload C 0 dX9_stateAt_28 rfl ?_
  refine gw_ald C (v := .ref (sa 10)) 2 4 dX9_stateAt_30 rfl rfl (by decide) (by decide) rfl ?_
  refine gw_get C 5 1 in_X9_stateAt_X0 dX9_stateAt_31 lk_X9_stateAt_86 rfl rfl (by decide) rfl rfl ?_
  refine gw_imul C dX9_stateAt_34 ?_
  refine gw_aload_n C 3 dX9_stateAt_35 rfl rfl ?_
  refine gw_get C 0 5 in_X9_stateAt_X9 dX9_stateAt_36 lk_X9_stateAt_25 rfl rfl (by decide) rfl rfl ?_
  refine gw_iload_n C 2 dX9_stateAt_39 rfl rfl ?_
  refine gw_iload C 0 dX9_stateAt_40 rfl ?_
  refine gw_iadd C dX9_stateAt_42 ?_
  refine gw_ild C (v := nI (Nm (((d) * (4)) + (0)))) 3 0 dX9_stateAt_43 rfl rfl (by first | decide | omega) (by omega) rfl ?_
  refine gw_iadd C dX9_stateAt_44 ?_
  refine gw_istore_n C (lv2 := [(3, iN (((0) * (96)) + (Nm (((d) * (4)) + (0))))), (4, iN (0)), (2, iN ((d) * (4))), (0, .ref (sa 0)), (1, iN (d))]) dX9_stateAt_45 rfl (by omega) rfl ?_
  refine gw_iinc C (v := nI (1)) (lv2 := [(4, iN (1)), (3, iN (((0) * (96)) + (Nm (((d) * (4)) + (0))))), (2, iN ((d) * (4))), (0, .ref (sa 0)), (1, iN (d))]) 1 dX9_stateAt_46 rfl (by decide) (by omega) rfl ?_
  refine gw_goto C 13 dX9_stateAt_49 (by decide) ?_
  refine gw_iload C 0 dX9_stateAt_13 rfl ?_
  refine gw_aload_n C 3 dX9_stateAt_15 rfl rfl ?_
  refine gw_get C 0 4 in_X9_stateAt_X9 dX9_stateAt_16 lk_X9_stateAt_21 rfl rfl (by decide) rfl rfl ?_
  refine gw_alen C 2 4 (4) dX9_stateAt_19 rfl rfl rfl ?_
  refine gw_icmp_ge C 52 dX9_stateAt_20 (by decide) (by omega) (by omega) (fun h121 => ?_) (fun h121 => ?_)
  · exact absurd h121 (by decide)
  refine gw_iload_n C 1 dX9_stateAt_23 rfl rfl ?_
  refine gw_aload_n C 3 dX9_stateAt_24 rfl rfl ?_
  refine gw_get C 0 4 in_X9_stateAt_X9 dX9_stateAt_25 lk_X9_stateAt_21 rfl rfl (by decide) rfl rfl ?_
  refine gw_iload C 0 dX9_stateAt_28 rfl ?_
  refine gw_ald C (v := .ref (sa 20)) 2 4 dX9_stateAt_30 rfl rfl (by decide) (by decide) rfl ?_
  refine gw_get C 8 1 in_X9_stateAt_X5 dX9_stateAt_31 lk_X9_stateAt_86 rfl rfl (by decide) rfl rfl ?_
  refine gw_imul C dX9_stateAt_34 ?_
  refine gw_aload_n C 3 dX9_stateAt_35 rfl rfl ?_
  refine gw_get C 0 5 in_X9_stateAt_X9 dX9_stateAt_36 lk_X9_stateAt_25 rfl rfl (by decide) rfl rfl ?_
  refine gw_iload_n C 2 dX9_stateAt_39 rfl rfl ?_
  refine gw_iload C 0 dX9_stateAt_40 rfl ?_
  refine gw_iadd C dX9_stateAt_42 ?_
  refine gw_ild C (v := nI (Nm (((d) * (4)) + (1)))) 3 0 dX9_stateAt_43 rfl rfl (by first | decide | omega) (by omega) rfl ?_
  refine gw_iadd C dX9_stateAt_44 ?_
  refine gw_istore_n C (lv2 := [(3, iN (((((0) * (96)) + (Nm (((d) * (4)) + (0)))) * (24)) + (Nm (((d) * (4)) + (1))))), (4, iN (1)), (2, iN ((d) * (4))), (0, .ref (sa 0)), (1, iN (d))]) dX9_stateAt_45 rfl (by omega) rfl ?_
  refine gw_iinc C (v := nI (2)) (lv2 := [(4, iN (2)), (3, iN (((((0) * (96)) + (Nm (((d) * (4)) + (0)))) * (24)) + (Nm (((d) * (4)) + (1))))), (2, iN ((d) * (4))), (0, .ref (sa 0)), (1, iN (d))]) 1 dX9_stateAt_46 rfl (by decide) (by omega) rfl ?_
  refine gw_goto C 13 dX9_stateAt_49 (by decide) ?_
  refine gw_iload C 0 dX9_stateAt_13 rfl ?_
  refine gw_aload_n C 3 dX9_stateAt_15 rfl rfl ?_
  refine gw_get C 0 4 in_X9_stateAt_X9 dX9_stateAt_16 lk_X9_stateAt_21 rfl rfl (by decide) rfl rfl ?_
  refine gw_alen C 2 4 (4) dX9_stateAt_19 rfl rfl rfl ?_
  refine gw_icmp_ge C 52 dX9_stateAt_20 (by decide) (by omega) (by omega) (fun h122 => ?_) (fun h122 => ?_)
  · exact absurd h122 (by decide)
  refine gw_iload_n C 1 dX9_stateAt_23 rfl rfl ?_
  refine gw_aload_n C 3 dX9_stateAt_24 rfl rfl ?_
  refine gw_get C 0 4 in_X9_stateAt_X9 dX9_stateAt_25 lk_X9_stateAt_21 rfl rfl (by decide) rfl rfl ?_
  refine gw_iload C 0 dX9_stateAt_28 rfl ?_
  refine gw_ald C (v := .ref (sa 30)) 2 4 dX9_stateAt_30 rfl rfl (by decide) (by decide) rfl ?_
  refine gw_get C 11 1 in_X9_stateAt_X5 dX9_stateAt_31 lk_X9_stateAt_86 rfl rfl (by decide) rfl rfl ?_
  refine gw_imul C dX9_stateAt_34 ?_
  refine gw_aload_n C 3 dX9_stateAt_35 rfl rfl ?_
  refine gw_get C 0 5 in_X9_stateAt_X9 dX9_stateAt_36 lk_X9_stateAt_25 rfl rfl (by decide) rfl rfl ?_
  refine gw_iload_n C 2 dX9_stateAt_39 rfl rfl ?_
  refine gw_iload C 0 dX9_stateAt_40 rfl ?_
  refine gw_iadd C dX9_stateAt_42 ?_
  refine gw_ild C (v := nI (Nm (((d) * (4)) + (2)))) 3 0 dX9_stateAt_43 rfl rfl (by first | decide | omega) (by omega) rfl ?_
  refine gw_iadd C dX9_stateAt_44 ?_
  refine gw_istore_n C (lv2 := [(3, iN (((((((0) * (96)) + (Nm (((d) * (4)) + (0)))) * (24)) + (Nm (((d) * (4)) + (1)))) * (24)) + (Nm (((d) * (4)) + (2))))), (4, iN (2)), (2, iN ((d) * (4))), (0, .ref (sa 0)), (1, iN (d))]) dX9_stateAt_45 rfl (by omega) rfl ?_
  refine gw_iinc C (v := nI (3)) (lv2 := [(4, iN (3)), (3, iN (((((((0) * (96)) + (Nm (((d) * (4)) + (0)))) * (24)) + (Nm (((d) * (4)) + (1)))) * (24)) + (Nm (((d) * (4)) + (2))))), (2, iN ((d) * (4))), (0, .ref (sa 0)), (1, iN (d))]) 1 dX9_stateAt_46 rfl (by decide) (by omega) rfl ?_
  refine gw_goto C 13 dX9_stateAt_49 (by decide) ?_
  refine gw_iload C 0 dX9_stateAt_13 rfl ?_
  refine gw_aload_n C 3 dX9_stateAt_15 rfl rfl ?_
  refine gw_get C 0 4 in_X9_stateAt_X9 dX9_stateAt_16 lk_X9_stateAt_21 rfl rfl (by decide) rfl rfl ?_
  refine gw_alen C 2 4 (4) dX9_stateAt_19 rfl rfl rfl ?_
  refine gw_icmp_ge C 52 dX9_stateAt_20 (by decide) (by omega) (by omega) (fun h123 => ?_) (fun h123 => ?_)
  · exact absurd h123 (by decide)
  refine gw_iload_n C 1 dX9_stateAt_23 rfl rfl ?_
  refine gw_aload_n C 3 dX9_stateAt_24 rfl rfl ?_
  refine gw_get C 0 4 in_X9_stateAt_X9 dX9_stateAt_25 lk_X9_stateAt_21 rfl rfl (by decide) rfl rfl ?_
  refine gw_iload C 0 dX9_stateAt_28 rfl ?_
  refine gw_ald C (v := .ref (sa 40)) 2 4 dX9_stateAt_30 rfl rfl (by decide) (by decide) rfl ?_
  refine gw_get C 14 1 in_X9_stateAt_X5 dX9_stateAt_31 lk_X9_stateAt_86 rfl rfl (by decide) rfl rfl ?_
  refine gw_imul C dX9_stateAt_34 ?_
  refine gw_aload_n C 3 dX9_stateAt_35 rfl rfl ?_
  refine gw_get C 0 5 in_X9_stateAt_X9 dX9_stateAt_36 lk_X9_stateAt_25 rfl rfl (by decide) rfl rfl ?_
  refine gw_iload_n C 2 dX9_stateAt_39 rfl rfl ?_
  refine gw_iload C 0 dX9_stateAt_40 rfl ?_
  refine gw_iadd C dX9_stateAt_42 ?_
  refine gw_ild C (v := nI (Nm (((d) * (4)) + (3)))) 3 0 dX9_stateAt_43 rfl rfl (by first | decide | omega) (by omega) rfl ?_
  refine gw_iadd C dX9_stateAt_44 ?_
  refine gw_istore_n C (lv2 := [(3, iN (((((((((0) * (96)) + (Nm (((d) * (4)) + (0)))) * (24)) + (Nm (((d) * (4)) + (1)))) * (24)) + (Nm (((d) * (4)) + (2)))) * (24)) + (Nm (((d) * (4)) + (3))))), (4, iN (3)), (2, iN ((d) * (4))), (0, .ref (sa 0)), (1, iN (d))]) dX9_stateAt_45 rfl (by omega) rfl ?_
  refine gw_iinc C (v := nI (4)) (lv2 := [(4, iN (4)), (3, iN (((((((((0) * (96)) + (Nm (((d) * (4)) + (0)))) * (24)) + (Nm (((d) * (4)) + (1)))) * (24)) + (Nm (((d) * (4)) + (2)))) * (24)) + (Nm (((d) * (4)) + (3))))), (2, iN ((d) * (4))), (0, .ref (sa 0)), (1, iN (d))]) 1 dX9_stateAt_46 rfl (by decide) (by omega) rfl ?_
  refine gw_goto C 13 dX9_stateAt_49 (by decide) ?_
  refine gw_iload C 0 dX9_stateAt_13 rfl ?_
  refine gw_aload_n C 3 dX9_stateAt_15 rfl rfl ?_
  refine gw_get C 0 4 in_X9_stateAt_X9 dX9_stateAt_16 lk_X9_stateAt_21 rfl rfl (by decide) rfl rfl ?_
  refine gw_alen C 2 4 (4) dX9_stateAt_19 rfl rfl rfl ?_
  refine gw_icmp_ge C 52 dX9_stateAt_20 (by decide) (by omega) (by omega) (fun h124 => ?_) (fun h124 => ?_)
  rotate_left
  · exact absurd h124 (by decide)
  refine gw_iload_n C 1 dX9_stateAt_52 rfl rfl ?_
  exact ret () dX9_stateAt_53 rfl rfl rfl (Nat.le_refl 0) (Nat.le_refl 0)
set_option maxHeartbeats 4000000 in
set_option maxRecDepth 100000 in
theorem c_advance31 (l : Launch) (D : va_G) (cI cB cS cJ cF cG : ClassId) (tt : Nat → Nat) (sa : Nat → Nat) (Wy Nm : Nat → Nat) (nv : Value) (sc nx : Nat → Nat → Nat) (x1 : Nat × va_E) (d fc : Nat) (hd : d ≤ 15) (hf : fc < 6) (h0 : Nm (d * 4 + 0) < 96) (h1 : Nm (d * 4 + 1) < 24) (h2 : Nm (d * 4 + 2) < 24) (h3 : Nm (d * 4 + 3) < 24) : gw_CV (S := Unit) l yX9_advance wsX9_advance 0 0 0 0 D (mo_ty cI cB cS cJ cF cG) (zs tt) (sg_ws cI cF sa 4 0 7 10240 (nv) (Wy) (Nm) (x1 :: fl3_ws cI sa sc nx)) [.ref (sa 0), iN d, iN fc] (fun _ => True) (fun _ => sg_ws cI cF sa 4 0 7 10240 (nv) (Wy) (ad_ nx (d * 4) fc Nm 4) (x1 :: fl3_ws cI sa sc nx)) := by
  refine gw_CV.of (cc := cX9_advance) (maxL := 5) (zs_ok tt) (by decide) rfl (Nat.le_of_ble_eq_true rfl) ?_
  intro K C hkl hkn hkR hkD hmn ret
  have C : gw_x K cX9_advance RX9 wsX9_advance (mo_ty cI cB cS cJ cF cG) (zs tt) := C
  subst hkl hkD
  have hrc : (kR K).cells = 0 := by rw [hkR]
  have hrs : (kR K).slots = 0 := by rw [hkR]
  obtain ⟨b, eb⟩ : ∃ b, b = d * 4 := ⟨_, rfl⟩
  rw [← eb] at h0 h1 h2 h3
  refine gw_iload_n C 1 dX9_advance_0 rfl rfl ?_
  refine gw_aload_n C 0 dX9_advance_1 rfl rfl ?_
  refine gw_get C 0 4 in_X9_advance_X9 dX9_advance_2 lk_X9_advance_21 rfl rfl (by decide) rfl rfl ?_
  refine gw_alen C 2 4 (4) dX9_advance_5 rfl rfl rfl ?_
  refine gw_imul C dX9_advance_6 ?_
  refine gw_istore_n C (lv2 := [(3, iN ((d) * (4))), (0, .ref (sa 0)), (1, iN (d)), (2, iN (fc))]) dX9_advance_7 rfl (by omega) rfl ?_
  refine gw_iconst C 0 dX9_advance_8 (by decide) ?_
  refine gw_istore C (lv2 := [(4, iN (0)), (3, iN ((d) * (4))), (0, .ref (sa 0)), (1, iN (d)), (2, iN (fc))]) dX9_advance_9 (by omega) rfl ?_
  rw [← eb]
  refine gw_iload C 0 dX9_advance_11 rfl ?_
  refine gw_aload_n C 2 dX9_advance_13 rfl rfl ?_
  refine gw_get C 0 4 in_X9_advance_X9 dX9_advance_14 lk_X9_advance_21 rfl rfl (by decide) rfl rfl ?_
  refine gw_alen C 2 4 (4) dX9_advance_17 rfl rfl rfl ?_
  refine gw_icmp_ge C 61 dX9_advance_18 (by decide) (by omega) (by omega) (fun h125 => ?_) (fun h125 => ?_)
  · exact absurd h125 (by decide)
  have f0 : ad_ nx b fc Nm 0 (b + 0) < 96 := by rw [ad_fix nx b fc Nm 0 _ (by omega)]; exact h0
  refine gw_aload_n C 2 dX9_advance_21 rfl rfl ?_
  refine gw_get C 0 5 in_X9_advance_X9 dX9_advance_22 lk_X9_advance_25 rfl rfl (by decide) rfl rfl ?_
  refine gw_iload_n C 1 dX9_advance_25 rfl rfl ?_
  refine gw_iload C 0 dX9_advance_26 rfl ?_
  refine gw_iadd C dX9_advance_28 ?_
  refine gw_aload_n C 2 dX9_advance_29 rfl rfl ?_
  refine gw_get C 0 4 in_X9_advance_X9 dX9_advance_30 lk_X9_advance_21 rfl rfl (by decide) rfl rfl ?_
  refine gw_iload C 0 dX9_advance_33 rfl ?_
  refine gw_ald C (v := .ref (sa 10)) 2 4 dX9_advance_35 rfl rfl (by decide) (by decide) rfl ?_
  refine gw_get C 5 2 in_X9_advance_X0 dX9_advance_36 lk_X9_advance_83 rfl rfl (by decide) rfl rfl ?_
  refine gw_bipush C 6 dX9_advance_39 (by decide) ?_
  refine gw_aload_n C 2 dX9_advance_41 rfl rfl ?_
  refine gw_get C 0 5 in_X9_advance_X9 dX9_advance_42 lk_X9_advance_25 rfl rfl (by decide) rfl rfl ?_
  refine gw_iload_n C 1 dX9_advance_45 rfl rfl ?_
  refine gw_iload C 0 dX9_advance_46 rfl ?_
  refine gw_iadd C dX9_advance_48 ?_
  refine gw_ild C (v := nI (Nm ((b) + (0)))) 3 0 dX9_advance_49 rfl rfl (by first | decide | omega) (by omega) rfl ?_
  refine gw_imul C dX9_advance_50 ?_
  refine gw_iload_n C 4 dX9_advance_51 rfl rfl ?_
  refine gw_iadd C dX9_advance_52 ?_
  refine gw_ild C (v := nI ((nx 0) (((6) * (Nm ((b) + (0)))) + (fc)))) 7 0 dX9_advance_53 rfl rfl (by first | decide | omega) (by omega) rfl ?_
  refine gw_istN C (ws2 := [(sa 0, .inr (7, [.ref (sa 1), iN (0), iN (7), iN (10240), .ref (sa 2), .ref (sa 3), nv])), (sa 1, .inl (cI, 15, .inl (fun j => nI (Wy j)))), (sa 2, .inl (cF, 4, .inr (.inr (.inr (.inr (fq_ sa 4)))))), (sa 3, .inl (cI, 16 * 4, .inl (fun j => nI ((up1 Nm ((b) + (0)) ((nx 0) (((6) * (Nm ((b) + (0)))) + (fc)))) j)))), x1, (sa 10, .inr (0, [iN (1), iN (96), .ref (sa 11), .ref (sa 12)])), (sa 12, .inl (cI, 4, .inl (fun j => nI ((sc 0) j)))), (sa 11, .inl (cI, 576, .inl (fun j => nI ((nx 0) j)))), (sa 20, .inr (3, [iN (0), iN (24), .ref (sa 21), iN (0), .ref (sa 22)])), (sa 22, .inl (cI, 4, .inl (fun j => nI ((sc 1) j)))), (sa 21, .inl (cI, 144, .inl (fun j => nI ((nx 1) j)))), (sa 30, .inr (3, [iN (0), iN (24), .ref (sa 31), iN (4), .ref (sa 32)])), (sa 32, .inl (cI, 4, .inl (fun j => nI ((sc 2) j)))), (sa 31, .inl (cI, 144, .inl (fun j => nI ((nx 2) j)))), (sa 40, .inr (3, [iN (0), iN (24), .ref (sa 41), iN (8), .ref (sa 42)])), (sa 42, .inl (cI, 4, .inl (fun j => nI ((sc 3) j)))), (sa 41, .inl (cI, 144, .inl (fun j => nI ((nx 3) j))))]) 3 0 dX9_advance_54 rfl rfl (by first | decide | omega) (by omega) rfl ?_
  refine gw_iinc C (v := nI (1)) (lv2 := [(4, iN (1)), (3, iN (b)), (0, .ref (sa 0)), (1, iN (d)), (2, iN (fc))]) 0 dX9_advance_55 rfl (by decide) (by omega) rfl ?_
  refine gw_goto C 11 dX9_advance_58 (by decide) ?_
  refine gw_ws (ws2 := [(sa 0, .inr (7, [.ref (sa 1), iN (0), iN (7), iN (10240), .ref (sa 2), .ref (sa 3), nv])), (sa 1, .inl (cI, 15, .inl (fun j => nI (Wy j)))), (sa 2, .inl (cF, 4, .inr (.inr (.inr (.inr (fq_ sa 4)))))), (sa 3, .inl (cI, 16 * 4, .inl (fun j => nI ((ad_ nx b fc Nm 1) j)))), x1, (sa 10, .inr (0, [iN (1), iN (96), .ref (sa 11), .ref (sa 12)])), (sa 12, .inl (cI, 4, .inl (fun j => nI ((sc 0) j)))), (sa 11, .inl (cI, 576, .inl (fun j => nI ((nx 0) j)))), (sa 20, .inr (3, [iN (0), iN (24), .ref (sa 21), iN (0), .ref (sa 22)])), (sa 22, .inl (cI, 4, .inl (fun j => nI ((sc 1) j)))), (sa 21, .inl (cI, 144, .inl (fun j => nI ((nx 1) j)))), (sa 30, .inr (3, [iN (0), iN (24), .ref (sa 31), iN (4), .ref (sa 32)])), (sa 32, .inl (cI, 4, .inl (fun j => nI ((sc 2) j)))), (sa 31, .inl (cI, 144, .inl (fun j => nI ((nx 2) j)))), (sa 40, .inr (3, [iN (0), iN (24), .ref (sa 41), iN (8), .ref (sa 42)])), (sa 42, .inl (cI, 4, .inl (fun j => nI ((sc 3) j)))), (sa 41, .inl (cI, 144, .inl (fun j => nI ((nx 3) j))))]) rfl ?_
  refine gw_iload C 0 dX9_advance_11 rfl ?_
  refine gw_aload_n C 2 dX9_advance_13 rfl rfl ?_
  refine gw_get C 0 4 in_X9_advance_X9 dX9_advance_14 lk_X9_advance_21 rfl rfl (by decide) rfl rfl ?_
  refine gw_alen C 2 4 (4) dX9_advance_17 rfl rfl rfl ?_
  refine gw_icmp_ge C 61 dX9_advance_18 (by decide) (by omega) (by omega) (fun h126 => ?_) (fun h126 => ?_)
  · exact absurd h126 (by decide)
  have f1 : ad_ nx b fc Nm 1 (b + 1) < 24 := by rw [ad_fix nx b fc Nm 1 _ (by omega)]; exact h1
  refine gw_aload_n C 2 dX9_advance_21 rfl rfl ?_
  refine gw_get C 0 5 in_X9_advance_X9 dX9_advance_22 lk_X9_advance_25 rfl rfl (by decide) rfl rfl ?_
  refine gw_iload_n C 1 dX9_advance_25 rfl rfl ?_
  refine gw_iload C 0 dX9_advance_26 rfl ?_
  refine gw_iadd C dX9_advance_28 ?_
  refine gw_aload_n C 2 dX9_advance_29 rfl rfl ?_
  refine gw_get C 0 4 in_X9_advance_X9 dX9_advance_30 lk_X9_advance_21 rfl rfl (by decide) rfl rfl ?_
  refine gw_iload C 0 dX9_advance_33 rfl ?_
  refine gw_ald C (v := .ref (sa 20)) 2 4 dX9_advance_35 rfl rfl (by decide) (by decide) rfl ?_
  refine gw_get C 8 2 in_X9_advance_X5 dX9_advance_36 lk_X9_advance_83 rfl rfl (by decide) rfl rfl ?_
  refine gw_bipush C 6 dX9_advance_39 (by decide) ?_
  refine gw_aload_n C 2 dX9_advance_41 rfl rfl ?_
  refine gw_get C 0 5 in_X9_advance_X9 dX9_advance_42 lk_X9_advance_25 rfl rfl (by decide) rfl rfl ?_
  refine gw_iload_n C 1 dX9_advance_45 rfl rfl ?_
  refine gw_iload C 0 dX9_advance_46 rfl ?_
  refine gw_iadd C dX9_advance_48 ?_
  refine gw_ild C (v := nI ((ad_ nx b fc Nm 1) ((b) + (1)))) 3 0 dX9_advance_49 rfl rfl (by first | decide | omega) (by omega) rfl ?_
  refine gw_imul C dX9_advance_50 ?_
  refine gw_iload_n C 4 dX9_advance_51 rfl rfl ?_
  refine gw_iadd C dX9_advance_52 ?_
  refine gw_ild C (v := nI ((nx 1) (((6) * ((ad_ nx b fc Nm 1) ((b) + (1)))) + (fc)))) 10 0 dX9_advance_53 rfl rfl (by first | decide | omega) (by omega) rfl ?_
  refine gw_istN C (ws2 := [(sa 0, .inr (7, [.ref (sa 1), iN (0), iN (7), iN (10240), .ref (sa 2), .ref (sa 3), nv])), (sa 1, .inl (cI, 15, .inl (fun j => nI (Wy j)))), (sa 2, .inl (cF, 4, .inr (.inr (.inr (.inr (fq_ sa 4)))))), (sa 3, .inl (cI, 16 * 4, .inl (fun j => nI ((up1 (ad_ nx b fc Nm 1) ((b) + (1)) ((nx 1) (((6) * ((ad_ nx b fc Nm 1) ((b) + (1)))) + (fc)))) j)))), x1, (sa 10, .inr (0, [iN (1), iN (96), .ref (sa 11), .ref (sa 12)])), (sa 12, .inl (cI, 4, .inl (fun j => nI ((sc 0) j)))), (sa 11, .inl (cI, 576, .inl (fun j => nI ((nx 0) j)))), (sa 20, .inr (3, [iN (0), iN (24), .ref (sa 21), iN (0), .ref (sa 22)])), (sa 22, .inl (cI, 4, .inl (fun j => nI ((sc 1) j)))), (sa 21, .inl (cI, 144, .inl (fun j => nI ((nx 1) j)))), (sa 30, .inr (3, [iN (0), iN (24), .ref (sa 31), iN (4), .ref (sa 32)])), (sa 32, .inl (cI, 4, .inl (fun j => nI ((sc 2) j)))), (sa 31, .inl (cI, 144, .inl (fun j => nI ((nx 2) j)))), (sa 40, .inr (3, [iN (0), iN (24), .ref (sa 41), iN (8), .ref (sa 42)])), (sa 42, .inl (cI, 4, .inl (fun j => nI ((sc 3) j)))), (sa 41, .inl (cI, 144, .inl (fun j => nI ((nx 3) j))))]) 3 0 dX9_advance_54 rfl rfl (by first | decide | omega) (by omega) rfl ?_
  refine gw_iinc C (v := nI (2)) (lv2 := [(4, iN (2)), (3, iN (b)), (0, .ref (sa 0)), (1, iN (d)), (2, iN (fc))]) 0 dX9_advance_55 rfl (by decide) (by omega) rfl ?_
  refine gw_goto C 11 dX9_advance_58 (by decide) ?_
  refine gw_ws (ws2 := [(sa 0, .inr (7, [.ref (sa 1), iN (0), iN (7), iN (10240), .ref (sa 2), .ref (sa 3), nv])), (sa 1, .inl (cI, 15, .inl (fun j => nI (Wy j)))), (sa 2, .inl (cF, 4, .inr (.inr (.inr (.inr (fq_ sa 4)))))), (sa 3, .inl (cI, 16 * 4, .inl (fun j => nI ((ad_ nx b fc Nm 2) j)))), x1, (sa 10, .inr (0, [iN (1), iN (96), .ref (sa 11), .ref (sa 12)])), (sa 12, .inl (cI, 4, .inl (fun j => nI ((sc 0) j)))), (sa 11, .inl (cI, 576, .inl (fun j => nI ((nx 0) j)))), (sa 20, .inr (3, [iN (0), iN (24), .ref (sa 21), iN (0), .ref (sa 22)])), (sa 22, .inl (cI, 4, .inl (fun j => nI ((sc 1) j)))), (sa 21, .inl (cI, 144, .inl (fun j => nI ((nx 1) j)))), (sa 30, .inr (3, [iN (0), iN (24), .ref (sa 31), iN (4), .ref (sa 32)])), (sa 32, .inl (cI, 4, .inl (fun j => nI ((sc 2) j)))), (sa 31, .inl (cI, 144, .inl (fun j => nI ((nx 2) j)))), (sa 40, .inr (3, [iN (0), iN (24), .ref (sa 41), iN (8), .ref (sa 42)])), (sa 42, .inl (cI, 4, .inl (fun j => nI ((sc 3) j)))), (sa 41, .inl (cI, 144, .inl (fun j => nI ((nx 3) j))))]) rfl ?_
  refine gw_iload C 0 dX9_advance_11 rfl ?_
  refine gw_aload_n C 2 dX9_advance_13 rfl rfl ?_
  refine gw_get C 0 4 in_X9_advance_X9 dX9_advance_14 lk_X9_advance_21 rfl rfl (by decide) rfl rfl ?_
  refine gw_alen C 2 4 (4) dX9_advance_17 rfl rfl rfl ?_
  refine gw_icmp_ge C 61 dX9_advance_18 (by decide) (by omega) (by omega) (fun h127 => ?_) (fun h127 => ?_)
  · exact absurd h127 (by decide)
  have f2 : ad_ nx b fc Nm 2 (b + 2) < 24 := by rw [ad_fix nx b fc Nm 2 _ (by omega)]; exact h2
  refine gw_aload_n C 2 dX9_advance_21 rfl rfl ?_
  refine gw_get C 0 5 in_X9_advance_X9 dX9_advance_22 lk_X9_advance_25 rfl rfl (by decide) rfl rfl ?_
  refine gw_iload_n C 1 dX9_advance_25 rfl rfl ?_
  refine gw_iload C 0 dX9_advance_26 rfl ?_
  refine gw_iadd C dX9_advance_28 ?_
  refine gw_aload_n C 2 dX9_advance_29 rfl rfl ?_
  refine gw_get C 0 4 in_X9_advance_X9 dX9_advance_30 lk_X9_advance_21 rfl rfl (by decide) rfl rfl ?_
  refine gw_iload C 0 dX9_advance_33 rfl ?_
  refine gw_ald C (v := .ref (sa 30)) 2 4 dX9_advance_35 rfl rfl (by decide) (by decide) rfl ?_
  refine gw_get C 11 2 in_X9_advance_X5 dX9_advance_36 lk_X9_advance_83 rfl rfl (by decide) rfl rfl ?_
  refine gw_bipush C 6 dX9_advance_39 (by decide) ?_
  refine gw_aload_n C 2 dX9_advance_41 rfl rfl ?_
  refine gw_get C 0 5 in_X9_advance_X9 dX9_advance_42 lk_X9_advance_25 rfl rfl (by decide) rfl rfl ?_
  refine gw_iload_n C 1 dX9_advance_45 rfl rfl ?_
  refine gw_iload C 0 dX9_advance_46 rfl ?_
  refine gw_iadd C dX9_advance_48 ?_
  refine gw_ild C (v := nI ((ad_ nx b fc Nm 2) ((b) + (2)))) 3 0 dX9_advance_49 rfl rfl (by first | decide | omega) (by omega) rfl ?_
  refine gw_imul C dX9_advance_50 ?_
  refine gw_iload_n C 4 dX9_advance_51 rfl rfl ?_
  refine gw_iadd C dX9_advance_52 ?_
  refine gw_ild C (v := nI ((nx 2) (((6) * ((ad_ nx b fc Nm 2) ((b) + (2)))) + (fc)))) 13 0 dX9_advance_53 rfl rfl (by first | decide | omega) (by omega) rfl ?_
  refine gw_istN C (ws2 := [(sa 0, .inr (7, [.ref (sa 1), iN (0), iN (7), iN (10240), .ref (sa 2), .ref (sa 3), nv])), (sa 1, .inl (cI, 15, .inl (fun j => nI (Wy j)))), (sa 2, .inl (cF, 4, .inr (.inr (.inr (.inr (fq_ sa 4)))))), (sa 3, .inl (cI, 16 * 4, .inl (fun j => nI ((up1 (ad_ nx b fc Nm 2) ((b) + (2)) ((nx 2) (((6) * ((ad_ nx b fc Nm 2) ((b) + (2)))) + (fc)))) j)))), x1, (sa 10, .inr (0, [iN (1), iN (96), .ref (sa 11), .ref (sa 12)])), (sa 12, .inl (cI, 4, .inl (fun j => nI ((sc 0) j)))), (sa 11, .inl (cI, 576, .inl (fun j => nI ((nx 0) j)))), (sa 20, .inr (3, [iN (0), iN (24), .ref (sa 21), iN (0), .ref (sa 22)])), (sa 22, .inl (cI, 4, .inl (fun j => nI ((sc 1) j)))), (sa 21, .inl (cI, 144, .inl (fun j => nI ((nx 1) j)))), (sa 30, .inr (3, [iN (0), iN (24), .ref (sa 31), iN (4), .ref (sa 32)])), (sa 32, .inl (cI, 4, .inl (fun j => nI ((sc 2) j)))), (sa 31, .inl (cI, 144, .inl (fun j => nI ((nx 2) j)))), (sa 40, .inr (3, [iN (0), iN (24), .ref (sa 41), iN (8), .ref (sa 42)])), (sa 42, .inl (cI, 4, .inl (fun j => nI ((sc 3) j)))), (sa 41, .inl (cI, 144, .inl (fun j => nI ((nx 3) j))))]) 3 0 dX9_advance_54 rfl rfl (by first | decide | omega) (by omega) rfl ?_
  refine gw_iinc C (v := nI (3)) (lv2 := [(4, iN (3)), (3, iN (b)), (0, .ref (sa 0)), (1, iN (d)), (2, iN (fc))]) 0 dX9_advance_55 rfl (by decide) (by omega) rfl ?_
  refine gw_goto C 11 dX9_advance_58 (by decide) ?_
  refine gw_ws (ws2 := [(sa 0, .inr (7, [.ref (sa 1), iN (0), iN (7), iN (10240), .ref (sa 2), .ref (sa 3), nv])), (sa 1, .inl (cI, 15, .inl (fun j => nI (Wy j)))), (sa 2, .inl (cF, 4, .inr (.inr (.inr (.inr (fq_ sa 4)))))), (sa 3, .inl (cI, 16 * 4, .inl (fun j => nI ((ad_ nx b fc Nm 3) j)))), x1, (sa 10, .inr (0, [iN (1), iN (96), .ref (sa 11), .ref (sa 12)])), (sa 12, .inl (cI, 4, .inl (fun j => nI ((sc 0) j)))), (sa 11, .inl (cI, 576, .inl (fun j => nI ((nx 0) j)))), (sa 20, .inr (3, [iN (0), iN (24), .ref (sa 21), iN (0), .ref (sa 22)])), (sa 22, .inl (cI, 4, .inl (fun j => nI ((sc 1) j)))), (sa 21, .inl (cI, 144, .inl (fun j => nI ((nx 1) j)))), (sa 30, .inr (3, [iN (0), iN (24), .ref (sa 31), iN (4), .ref (sa 32)])), (sa 32, .inl (cI, 4, .inl (fun j => nI ((sc 2) j)))), (sa 31, .inl (cI, 144, .inl (fun j => nI ((nx 2) j)))), (sa 40, .inr (3, [iN (0), iN (24), .ref (sa 41), iN (8), .ref (sa 42)])), (sa 42, .inl (cI, 4, .inl (fun j => nI ((sc 3) j)))), (sa 41, .inl (cI, 144, .inl (fun j => nI ((nx 3) j))))]) rfl ?_
  refine gw_iload C 0 dX9_advance_11 rfl ?_
  refine gw_aload_n C 2 dX9_advance_13 rfl rfl ?_
  refine gw_get C 0 4 in_X9_advance_X9 dX9_advance_14 lk_X9_advance_21 rfl rfl (by decide) rfl rfl ?_
  refine gw_alen C 2 4 (4) dX9_advance_17 rfl rfl rfl ?_
  refine gw_icmp_ge C 61 dX9_advance_18 (by decide) (by omega) (by omega) (fun h128 => ?_) (fun h128 => ?_)
  · exact absurd h128 (by decide)
  have f3 : ad_ nx b fc Nm 3 (b + 3) < 24 := by rw [ad_fix nx b fc Nm 3 _ (by omega)]; exact h3
  refine gw_aload_n C 2 dX9_advance_21 rfl rfl ?_
  refine gw_get C 0 5 in_X9_advance_X9 dX9_advance_22 lk_X9_advance_25 rfl rfl (by decide) rfl rfl ?_
  refine gw_iload_n C 1 dX9_advance_25 rfl rfl ?_
  refine gw_iload C 0 dX9_advance_26 rfl ?_
  refine gw_iadd C dX9_advance_28 ?_
  refine gw_aload_n C 2 dX9_advance_29 rfl rfl ?_
  refine gw_get C 0 4 in_X9_advance_X9 dX9_advance_30 lk_X9_advance_21 rfl rfl (by decide) rfl rfl ?_
  refine gw_iload C 0 dX9_advance_33 rfl ?_
  refine gw_ald C (v := .ref (sa 40)) 2 4 dX9_advance_35 rfl rfl (by decide) (by decide) rfl ?_
  refine gw_get C 14 2 in_X9_advance_X5 dX9_advance_36 lk_X9_advance_83 rfl rfl (by decide) rfl rfl ?_
  refine gw_bipush C 6 dX9_advance_39 (by decide) ?_
  refine gw_aload_n C 2 dX9_advance_41 rfl rfl ?_
  refine gw_get C 0 5 in_X9_advance_X9 dX9_advance_42 lk_X9_advance_25 rfl rfl (by decide) rfl rfl ?_
  refine gw_iload_n C 1 dX9_advance_45 rfl rfl ?_
  refine gw_iload C 0 dX9_advance_46 rfl ?_
  refine gw_iadd C dX9_advance_48 ?_
  refine gw_ild C (v := nI ((ad_ nx b fc Nm 3) ((b) + (3)))) 3 0 dX9_advance_49 rfl rfl (by first | decide | omega) (by omega) rfl ?_
  refine gw_imul C dX9_advance_50 ?_
  refine gw_iload_n C 4 dX9_advance_51 rfl rfl ?_
  refine gw_iadd C dX9_advance_52 ?_
  refine gw_ild C (v := nI ((nx 3) (((6) * ((ad_ nx b fc Nm 3) ((b) + (3)))) + (fc)))) 16 0 dX9_advance_53 rfl rfl (by first | decide | omega) (by omega) rfl ?_
  refine gw_istN C (ws2 := [(sa 0, .inr (7, [.ref (sa 1), iN (0), iN (7), iN (10240), .ref (sa 2), .ref (sa 3), nv])), (sa 1, .inl (cI, 15, .inl (fun j => nI (Wy j)))), (sa 2, .inl (cF, 4, .inr (.inr (.inr (.inr (fq_ sa 4)))))), (sa 3, .inl (cI, 16 * 4, .inl (fun j => nI ((up1 (ad_ nx b fc Nm 3) ((b) + (3)) ((nx 3) (((6) * ((ad_ nx b fc Nm 3) ((b) + (3)))) + (fc)))) j)))), x1, (sa 10, .inr (0, [iN (1), iN (96), .ref (sa 11), .ref (sa 12)])), (sa 12, .inl (cI, 4, .inl (fun j => nI ((sc 0) j)))), (sa 11, .inl (cI, 576, .inl (fun j => nI ((nx 0) j)))), (sa 20, .inr (3, [iN (0), iN (24), .ref (sa 21), iN (0), .ref (sa 22)])), (sa 22, .inl (cI, 4, .inl (fun j => nI ((sc 1) j)))), (sa 21, .inl (cI, 144, .inl (fun j => nI ((nx 1) j)))), (sa 30, .inr (3, [iN (0), iN (24), .ref (sa 31), iN (4), .ref (sa 32)])), (sa 32, .inl (cI, 4, .inl (fun j => nI ((sc 2) j)))), (sa 31, .inl (cI, 144, .inl (fun j => nI ((nx 2) j)))), (sa 40, .inr (3, [iN (0), iN (24), .ref (sa 41), iN (8), .ref (sa 42)])), (sa 42, .inl (cI, 4, .inl (fun j => nI ((sc 3) j)))), (sa 41, .inl (cI, 144, .inl (fun j => nI ((nx 3) j))))]) 3 0 dX9_advance_54 rfl rfl (by first | decide | omega) (by omega) rfl ?_
  refine gw_iinc C (v := nI (4)) (lv2 := [(4, iN (4)), (3, iN (b)), (0, .ref (sa 0)), (1, iN (d)), (2, iN (fc))]) 0 dX9_advance_55 rfl (by decide) (by omega) rfl ?_
  refine gw_goto C 11 dX9_advance_58 (by decide) ?_
  refine gw_ws (ws2 := [(sa 0, .inr (7, [.ref (sa 1), iN (0), iN (7), iN (10240), .ref (sa 2), .ref (sa 3), nv])), (sa 1, .inl (cI, 15, .inl (fun j => nI (Wy j)))), (sa 2, .inl (cF, 4, .inr (.inr (.inr (.inr (fq_ sa 4)))))), (sa 3, .inl (cI, 16 * 4, .inl (fun j => nI ((ad_ nx b fc Nm 4) j)))), x1, (sa 10, .inr (0, [iN (1), iN (96), .ref (sa 11), .ref (sa 12)])), (sa 12, .inl (cI, 4, .inl (fun j => nI ((sc 0) j)))), (sa 11, .inl (cI, 576, .inl (fun j => nI ((nx 0) j)))), (sa 20, .inr (3, [iN (0), iN (24), .ref (sa 21), iN (0), .ref (sa 22)])), (sa 22, .inl (cI, 4, .inl (fun j => nI ((sc 1) j)))), (sa 21, .inl (cI, 144, .inl (fun j => nI ((nx 1) j)))), (sa 30, .inr (3, [iN (0), iN (24), .ref (sa 31), iN (4), .ref (sa 32)])), (sa 32, .inl (cI, 4, .inl (fun j => nI ((sc 2) j)))), (sa 31, .inl (cI, 144, .inl (fun j => nI ((nx 2) j)))), (sa 40, .inr (3, [iN (0), iN (24), .ref (sa 41), iN (8), .ref (sa 42)])), (sa 42, .inl (cI, 4, .inl (fun j => nI ((sc 3) j)))), (sa 41, .inl (cI, 144, .inl (fun j => nI ((nx 3) j))))]) rfl ?_
  refine gw_iload C 0 dX9_advance_11 rfl ?_
  refine gw_aload_n C 2 dX9_advance_13 rfl rfl ?_
  refine gw_get C 0 4 in_X9_advance_X9 dX9_advance_14 lk_X9_advance_21 rfl rfl (by decide) rfl rfl ?_
  refine gw_alen C 2 4 (4) dX9_advance_17 rfl rfl rfl ?_
  refine gw_icmp_ge C 61 dX9_advance_18 (by decide) (by omega) (by omega) (fun h129 => ?_) (fun h129 => ?_)
  rotate_left
  · exact absurd h129 (by decide)
  exact ret () dX9_advance_61 trivial (by rw [eb]; rfl) (Nat.le_refl 0) (Nat.le_refl 0)
set_option maxHeartbeats 4000000 in
set_option maxRecDepth 100000 in
theorem c_stateAt32 (l : Launch) (D : va_G) (cI cB cS cJ cF cG : ClassId) (tt : Nat → Nat) (sa : Nat → Nat) (Wy Nm : Nat → Nat) (nv : Value) (sc nx : Nat → Nat → Nat) (x1 : Nat × va_E) (x2 : Nat × va_E) (d : Nat) (hd : d ≤ 15) : gw_CI (S := Unit) l yX9_stateAt wsX9_stateAt 0 0 0 0 D (mo_ty cI cB cS cJ cF cG) (zs tt) (sg_ws cI cF sa 4 0 7 10240 (nv) (Wy) (Nm) (x1 :: x2 :: fl3_ws cI sa sc nx)) [.ref (sa 0), iN d] (fun r _ => r = nI (sa_ sz3 Nm (d * 4) 4)) (fun _ => sg_ws cI cF sa 4 0 7 10240 (nv) (Wy) (Nm) (x1 :: x2 :: fl3_ws cI sa sc nx)) := by
  refine gw_CI.of (cc := cX9_stateAt) (maxL := 5) (rt := .int) (zs_ok tt) (by decide) rfl (Nat.le_of_ble_eq_true rfl) ?_
  intro K C hkl hkn hkR hkD hmn ret
  have C : gw_x K cX9_stateAt RX9 wsX9_stateAt (mo_ty cI cB cS cJ cF cG) (zs tt) := C
  subst hkl hkD
  have hrc : (kR K).cells = 0 := by rw [hkR]
  have hrs : (kR K).slots = 0 := by rw [hkR]
  refine gw_iload_n C 1 dX9_stateAt_0 rfl rfl ?_
  refine gw_aload_n C 0 dX9_stateAt_1 rfl rfl ?_
  refine gw_get C 0 4 in_X9_stateAt_X9 dX9_stateAt_2 lk_X9_stateAt_21 rfl rfl (by decide) rfl rfl ?_
  refine gw_alen C 2 4 (4) dX9_stateAt_5 rfl rfl rfl ?_
  refine gw_imul C dX9_stateAt_6 ?_
  refine gw_istore_n C (lv2 := [(2, iN ((d) * (4))), (0, .ref (sa 0)), (1, iN (d))]) dX9_stateAt_7 rfl (by omega) rfl ?_
  refine gw_iconst C 0 dX9_stateAt_8 (by decide) ?_
  refine gw_istore_n C (lv2 := [(3, iN (0)), (2, iN ((d) * (4))), (0, .ref (sa 0)), (1, iN (d))]) dX9_stateAt_9 rfl (by omega) rfl ?_
  refine gw_iconst C 0 dX9_stateAt_10 (by decide) ?_
  refine gw_istore C (lv2 := [(4, iN (0)), (3, iN (0)), (2, iN ((d) * (4))), (0, .ref (sa 0)), (1, iN (d))]) dX9_stateAt_11 (by omega) rfl ?_
  refine gw_iload C 0 dX9_stateAt_13 rfl ?_
  refine gw_aload_n C 3 dX9_stateAt_15 rfl rfl ?_
  refine gw_get C 0 4 in_X9_stateAt_X9 dX9_stateAt_16 lk_X9_stateAt_21 rfl rfl (by decide) rfl rfl ?_
  refine gw_alen C 2 4 (4) dX9_stateAt_19 rfl rfl rfl ?_
  refine gw_icmp_ge C 52 dX9_stateAt_20 (by decide) (by omega) (by omega) (fun h130 => ?_) (fun h130 => ?_)
  · exact absurd h130 (by decide)
  refine gw_iload_n C 1 dX9_stateAt_23 rfl rfl ?_
  refine gw_aload_n C 3 dX9_stateAt_24 rfl rfl ?_
  refine gw_get C 0 4 in_X9_stateAt_X9 dX9_stateAt_25 lk_X9_stateAt_21 rfl rfl (by decide) rfl rfl ?_
  refine gw_iload C 0 dX9_stateAt_28 rfl ?_
  refine gw_ald C (v := .ref (sa 10)) 2 4 dX9_stateAt_30 rfl rfl (by decide) (by decide) rfl ?_
  refine gw_get C 6 1 in_X9_stateAt_X0 dX9_stateAt_31 lk_X9_stateAt_86 rfl rfl (by decide) rfl rfl ?_
  refine gw_imul C dX9_stateAt_34 ?_
  refine gw_aload_n C 3 dX9_stateAt_35 rfl rfl ?_
  refine gw_get C 0 5 in_X9_stateAt_X9 dX9_stateAt_36 lk_X9_stateAt_25 rfl rfl (by decide) rfl rfl ?_
  refine gw_iload_n C 2 dX9_stateAt_39 rfl rfl ?_
  refine gw_iload C 0 dX9_stateAt_40 rfl ?_
  refine gw_iadd C dX9_stateAt_42 ?_
  refine gw_ild C (v := nI (Nm (((d) * (4)) + (0)))) 3 0 dX9_stateAt_43 rfl rfl (by first | decide | omega) (by omega) rfl ?_
  refine gw_iadd C dX9_stateAt_44 ?_
  refine gw_istore_n C (lv2 := [(3, iN (((0) * (96)) + (Nm (((d) * (4)) + (0))))), (4, iN (0)), (2, iN ((d) * (4))), (0, .ref (sa 0)), (1, iN (d))]) dX9_stateAt_45 rfl (by omega) rfl ?_
  refine gw_iinc C (v := nI (1)) (lv2 := [(4, iN (1)), (3, iN (((0) * (96)) + (Nm (((d) * (4)) + (0))))), (2, iN ((d) * (4))), (0, .ref (sa 0)), (1, iN (d))]) 1 dX9_stateAt_46 rfl (by decide) (by omega) rfl ?_
  refine gw_goto C 13 dX9_stateAt_49 (by decide) ?_
  refine gw_iload C 0 dX9_stateAt_13 rfl ?_
  refine gw_aload_n C 3 dX9_stateAt_15 rfl rfl ?_
  refine gw_get C 0 4 in_X9_stateAt_X9 dX9_stateAt_16 lk_X9_stateAt_21 rfl rfl (by decide) rfl rfl ?_
  refine gw_alen C 2 4 (4) dX9_stateAt_19 rfl rfl rfl ?_
  refine gw_icmp_ge C 52 dX9_stateAt_20 (by decide) (by omega) (by omega) (fun h131 => ?_) (fun h131 => ?_)
  · exact absurd h131 (by decide)
  refine gw_iload_n C 1 dX9_stateAt_23 rfl rfl ?_
  refine gw_aload_n C 3 dX9_stateAt_24 rfl rfl ?_
  refine gw_get C 0 4 in_X9_stateAt_X9 dX9_stateAt_25 lk_X9_stateAt_21 rfl rfl (by decide) rfl rfl ?_
  refine gw_iload C 0 dX9_stateAt_28 rfl ?_
  refine gw_ald C (v := .ref (sa 20)) 2 4 dX9_stateAt_30 rfl rfl (by decide) (by decide) rfl ?_
  refine gw_get C 9 1 in_X9_stateAt_X5 dX9_stateAt_31 lk_X9_stateAt_86 rfl rfl (by decide) rfl rfl ?_
  refine gw_imul C dX9_stateAt_34 ?_
  refine gw_aload_n C 3 dX9_stateAt_35 rfl rfl ?_
  refine gw_get C 0 5 in_X9_stateAt_X9 dX9_stateAt_36 lk_X9_stateAt_25 rfl rfl (by decide) rfl rfl ?_
  refine gw_iload_n C 2 dX9_stateAt_39 rfl rfl ?_
  refine gw_iload C 0 dX9_stateAt_40 rfl ?_
  refine gw_iadd C dX9_stateAt_42 ?_
  refine gw_ild C (v := nI (Nm (((d) * (4)) + (1)))) 3 0 dX9_stateAt_43 rfl rfl (by first | decide | omega) (by omega) rfl ?_
  refine gw_iadd C dX9_stateAt_44 ?_
  refine gw_istore_n C (lv2 := [(3, iN (((((0) * (96)) + (Nm (((d) * (4)) + (0)))) * (24)) + (Nm (((d) * (4)) + (1))))), (4, iN (1)), (2, iN ((d) * (4))), (0, .ref (sa 0)), (1, iN (d))]) dX9_stateAt_45 rfl (by omega) rfl ?_
  refine gw_iinc C (v := nI (2)) (lv2 := [(4, iN (2)), (3, iN (((((0) * (96)) + (Nm (((d) * (4)) + (0)))) * (24)) + (Nm (((d) * (4)) + (1))))), (2, iN ((d) * (4))), (0, .ref (sa 0)), (1, iN (d))]) 1 dX9_stateAt_46 rfl (by decide) (by omega) rfl ?_
  refine gw_goto C 13 dX9_stateAt_49 (by decide) ?_
  refine gw_iload C 0 dX9_stateAt_13 rfl ?_
  refine gw_aload_n C 3 dX9_stateAt_15 rfl rfl ?_
  refine gw_get C 0 4 in_X9_stateAt_X9 dX9_stateAt_16 lk_X9_stateAt_21 rfl rfl (by decide) rfl rfl ?_
  refine gw_alen C 2 4 (4) dX9_stateAt_19 rfl rfl rfl ?_
  refine gw_icmp_ge C 52 dX9_stateAt_20 (by decide) (by omega) (by omega) (fun h132 => ?_) (fun h132 => ?_)
  · exact absurd h132 (by decide)
  refine gw_iload_n C 1 dX9_stateAt_23 rfl rfl ?_
  refine gw_aload_n C 3 dX9_stateAt_24 rfl rfl ?_
  refine gw_get C 0 4 in_X9_stateAt_X9 dX9_stateAt_25 lk_X9_stateAt_21 rfl rfl (by decide) rfl rfl ?_
  refine gw_iload C 0 dX9_stateAt_28 rfl ?_
  refine gw_ald C (v := .ref (sa 30)) 2 4 dX9_stateAt_30 rfl rfl (by decide) (by decide) rfl ?_
  refine gw_get C 12 1 in_X9_stateAt_X5 dX9_stateAt_31 lk_X9_stateAt_86 rfl rfl (by decide) rfl rfl ?_
  refine gw_imul C dX9_stateAt_34 ?_
  refine gw_aload_n C 3 dX9_stateAt_35 rfl rfl ?_
  refine gw_get C 0 5 in_X9_stateAt_X9 dX9_stateAt_36 lk_X9_stateAt_25 rfl rfl (by decide) rfl rfl ?_
  refine gw_iload_n C 2 dX9_stateAt_39 rfl rfl ?_
  refine gw_iload C 0 dX9_stateAt_40 rfl ?_
  refine gw_iadd C dX9_stateAt_42 ?_
  refine gw_ild C (v := nI (Nm (((d) * (4)) + (2)))) 3 0 dX9_stateAt_43 rfl rfl (by first | decide | omega) (by omega) rfl ?_
  refine gw_iadd C dX9_stateAt_44 ?_
  refine gw_istore_n C (lv2 := [(3, iN (((((((0) * (96)) + (Nm (((d) * (4)) + (0)))) * (24)) + (Nm (((d) * (4)) + (1)))) * (24)) + (Nm (((d) * (4)) + (2))))), (4, iN (2)), (2, iN ((d) * (4))), (0, .ref (sa 0)), (1, iN (d))]) dX9_stateAt_45 rfl (by omega) rfl ?_
  refine gw_iinc C (v := nI (3)) (lv2 := [(4, iN (3)), (3, iN (((((((0) * (96)) + (Nm (((d) * (4)) + (0)))) * (24)) + (Nm (((d) * (4)) + (1)))) * (24)) + (Nm (((d) * (4)) + (2))))), (2, iN ((d) * (4))), (0, .ref (sa 0)), (1, iN (d))]) 1 dX9_stateAt_46 rfl (by decide) (by omega) rfl ?_
  refine gw_goto C 13 dX9_stateAt_49 (by decide) ?_
  refine gw_iload C 0 dX9_stateAt_13 rfl ?_
  refine gw_aload_n C 3 dX9_stateAt_15 rfl rfl ?_
  refine gw_get C 0 4 in_X9_stateAt_X9 dX9_stateAt_16 lk_X9_stateAt_21 rfl rfl (by decide) rfl rfl ?_
  refine gw_alen C 2 4 (4) dX9_stateAt_19 rfl rfl rfl ?_
  refine gw_icmp_ge C 52 dX9_stateAt_20 (by decide) (by omega) (by omega) (fun h133 => ?_) (fun h133 => ?_)
  · exact absurd h133 (by decide)
  refine gw_iload_n C 1 dX9_stateAt_23 rfl rfl ?_
  refine gw_aload_n C 3 dX9_stateAt_24 rfl rfl ?_
  refine gw_get C 0 4 in_X9_stateAt_X9 dX9_stateAt_25 lk_X9_stateAt_21 rfl rfl (by decide) rfl rfl ?_
  refine gw_iload C 0 dX9_stateAt_28 rfl ?_
  refine gw_ald C (v := .ref (sa 40)) 2 4 dX9_stateAt_30 rfl rfl (by decide) (by decide) rfl ?_
  refine gw_get C 15 1 in_X9_stateAt_X5 dX9_stateAt_31 lk_X9_stateAt_86 rfl rfl (by decide) rfl rfl ?_
  refine gw_imul C dX9_stateAt_34 ?_
  refine gw_aload_n C 3 dX9_stateAt_35 rfl rfl ?_
  refine gw_get C 0 5 in_X9_stateAt_X9 dX9_stateAt_36 lk_X9_stateAt_25 rfl rfl (by decide) rfl rfl ?_
  refine gw_iload_n C 2 dX9_stateAt_39 rfl rfl ?_
  refine gw_iload C 0 dX9_stateAt_40 rfl ?_
  refine gw_iadd C dX9_stateAt_42 ?_
  refine gw_ild C (v := nI (Nm (((d) * (4)) + (3)))) 3 0 dX9_stateAt_43 rfl rfl (by first | decide | omega) (by omega) rfl ?_
  refine gw_iadd C dX9_stateAt_44 ?_
  refine gw_istore_n C (lv2 := [(3, iN (((((((((0) * (96)) + (Nm (((d) * (4)) + (0)))) * (24)) + (Nm (((d) * (4)) + (1)))) * (24)) + (Nm (((d) * (4)) + (2)))) * (24)) + (Nm (((d) * (4)) + (3))))), (4, iN (3)), (2, iN ((d) * (4))), (0, .ref (sa 0)), (1, iN (d))]) dX9_stateAt_45 rfl (by omega) rfl ?_
  refine gw_iinc C (v := nI (4)) (lv2 := [(4, iN (4)), (3, iN (((((((((0) * (96)) + (Nm (((d) * (4)) + (0)))) * (24)) + (Nm (((d) * (4)) + (1)))) * (24)) + (Nm (((d) * (4)) + (2)))) * (24)) + (Nm (((d) * (4)) + (3))))), (2, iN ((d) * (4))), (0, .ref (sa 0)), (1, iN (d))]) 1 dX9_stateAt_46 rfl (by decide) (by omega) rfl ?_
  refine gw_goto C 13 dX9_stateAt_49 (by decide) ?_
  refine gw_iload C 0 dX9_stateAt_13 rfl ?_
  refine gw_aload_n C 3 dX9_stateAt_15 rfl rfl ?_
  refine gw_get C 0 4 in_X9_stateAt_X9 dX9_stateAt_16 lk_X9_stateAt_21 rfl rfl (by decide) rfl rfl ?_
  refine gw_alen C 2 4 (4) dX9_stateAt_19 rfl rfl rfl ?_
  refine gw_icmp_ge C 52 dX9_stateAt_20 (by decide) (by omega) (by omega) (fun h134 => ?_) (fun h134 => ?_)
  rotate_left
  · exact absurd h134 (by decide)
  refine gw_iload_n C 1 dX9_stateAt_52 rfl rfl ?_
  exact ret () dX9_stateAt_53 rfl rfl rfl (Nat.le_refl 0) (Nat.le_refl 0)
set_option maxHeartbeats 4000000 in
set_option maxRecDepth 100000 in
theorem c_advance32 (l : Launch) (D : va_G) (cI cB cS cJ cF cG : ClassId) (tt : Nat → Nat) (sa : Nat → Nat) (Wy Nm : Nat → Nat) (nv : Value) (sc nx : Nat → Nat → Nat) (x1 : Nat × va_E) (x2 : Nat × va_E) (d fc : Nat) (hd : d ≤ 15) (hf : fc < 6) (h0 : Nm (d * 4 + 0) < 96) (h1 : Nm (d * 4 + 1) < 24) (h2 : Nm (d * 4 + 2) < 24) (h3 : Nm (d * 4 + 3) < 24) : gw_CV (S := Unit) l yX9_advance wsX9_advance 0 0 0 0 D (mo_ty cI cB cS cJ cF cG) (zs tt) (sg_ws cI cF sa 4 0 7 10240 (nv) (Wy) (Nm) (x1 :: x2 :: fl3_ws cI sa sc nx)) [.ref (sa 0), iN d, iN fc] (fun _ => True) (fun _ => sg_ws cI cF sa 4 0 7 10240 (nv) (Wy) (ad_ nx (d * 4) fc Nm 4) (x1 :: x2 :: fl3_ws cI sa sc nx)) := by
  refine gw_CV.of (cc := cX9_advance) (maxL := 5) (zs_ok tt) (by decide) rfl (Nat.le_of_ble_eq_true rfl) ?_
  intro K C hkl hkn hkR hkD hmn ret
  have C : gw_x K cX9_advance RX9 wsX9_advance (mo_ty cI cB cS cJ cF cG) (zs tt) := C
  subst hkl hkD
  have hrc : (kR K).cells = 0 := by rw [hkR]
  have hrs : (kR K).slots = 0 := by rw [hkR]
  obtain ⟨b, eb⟩ : ∃ b, b = d * 4 := ⟨_, rfl⟩
  rw [← eb] at h0 h1 h2 h3
  refine gw_iload_n C 1 dX9_advance_0 rfl rfl ?_
  refine gw_aload_n C 0 dX9_advance_1 rfl rfl ?_
  refine gw_get C 0 4 in_X9_advance_X9 dX9_advance_2 lk_X9_advance_21 rfl rfl (by decide) rfl rfl ?_
  refine gw_alen C 2 4 (4) dX9_advance_5 rfl rfl rfl ?_
  refine gw_imul C dX9_advance_6 ?_
  refine gw_istore_n C (lv2 := [(3, iN ((d) * (4))), (0, .ref (sa 0)), (1, iN (d)), (2, iN (fc))]) dX9_advance_7 rfl (by omega) rfl ?_
  refine gw_iconst C 0 dX9_advance_8 (by decide) ?_
  refine gw_istore C (lv2 := [(4, iN (0)), (3, iN ((d) * (4))), (0, .ref (sa 0)), (1, iN (d)), (2, iN (fc))]) dX9_advance_9 (by omega) rfl ?_
  rw [← eb]
  refine gw_iload C 0 dX9_advance_11 rfl ?_
  refine gw_aload_n C 2 dX9_advance_13 rfl rfl ?_
  refine gw_get C 0 4 in_X9_advance_X9 dX9_advance_14 lk_X9_advance_21 rfl rfl (by decide) rfl rfl ?_
  refine gw_alen C 2 4 (4) dX9_advance_17 rfl rfl rfl ?_
  refine gw_icmp_ge C 61 dX9_advance_18 (by decide) (by omega) (by omega) (fun h135 => ?_) (fun h135 => ?_)
  · exact absurd h135 (by decide)
  have f0 : ad_ nx b fc Nm 0 (b + 0) < 96 := by rw [ad_fix nx b fc Nm 0 _ (by omega)]; exact h0
  refine gw_aload_n C 2 dX9_advance_21 rfl rfl ?_
  refine gw_get C 0 5 in_X9_advance_X9 dX9_advance_22 lk_X9_advance_25 rfl rfl (by decide) rfl rfl ?_
  refine gw_iload_n C 1 dX9_advance_25 rfl rfl ?_
  refine gw_iload C 0 dX9_advance_26 rfl ?_
  refine gw_iadd C dX9_advance_28 ?_
  refine gw_aload_n C 2 dX9_advance_29 rfl rfl ?_
  refine gw_get C 0 4 in_X9_advance_X9 dX9_advance_30 lk_X9_advance_21 rfl rfl (by decide) rfl rfl ?_
  refine gw_iload C 0 dX9_advance_33 rfl ?_
  refine gw_ald C (v := .ref (sa 10)) 2 4 dX9_advance_35 rfl rfl (by decide) (by decide) rfl ?_
  refine gw_get C 6 2 in_X9_advance_X0 dX9_advance_36 lk_X9_advance_83 rfl rfl (by decide) rfl rfl ?_
  refine gw_bipush C 6 dX9_advance_39 (by decide) ?_
  refine gw_aload_n C 2 dX9_advance_41 rfl rfl ?_
  refine gw_get C 0 5 in_X9_advance_X9 dX9_advance_42 lk_X9_advance_25 rfl rfl (by decide) rfl rfl ?_
  refine gw_iload_n C 1 dX9_advance_45 rfl rfl ?_
  refine gw_iload C 0 dX9_advance_46 rfl ?_
  refine gw_iadd C dX9_advance_48 ?_
  refine gw_ild C (v := nI (Nm ((b) + (0)))) 3 0 dX9_advance_49 rfl rfl (by first | decide | omega) (by omega) rfl ?_
  refine gw_imul C dX9_advance_50 ?_
  refine gw_iload_n C 4 dX9_advance_51 rfl rfl ?_
  refine gw_iadd C dX9_advance_52 ?_
  refine gw_ild C (v := nI ((nx 0) (((6) * (Nm ((b) + (0)))) + (fc)))) 8 0 dX9_advance_53 rfl rfl (by first | decide | omega) (by omega) rfl ?_
  refine gw_istN C (ws2 := [(sa 0, .inr (7, [.ref (sa 1), iN (0), iN (7), iN (10240), .ref (sa 2), .ref (sa 3), nv])), (sa 1, .inl (cI, 15, .inl (fun j => nI (Wy j)))), (sa 2, .inl (cF, 4, .inr (.inr (.inr (.inr (fq_ sa 4)))))), (sa 3, .inl (cI, 16 * 4, .inl (fun j => nI ((up1 Nm ((b) + (0)) ((nx 0) (((6) * (Nm ((b) + (0)))) + (fc)))) j)))), x1, x2, (sa 10, .inr (0, [iN (1), iN (96), .ref (sa 11), .ref (sa 12)])), (sa 12, .inl (cI, 4, .inl (fun j => nI ((sc 0) j)))), (sa 11, .inl (cI, 576, .inl (fun j => nI ((nx 0) j)))), (sa 20, .inr (3, [iN (0), iN (24), .ref (sa 21), iN (0), .ref (sa 22)])), (sa 22, .inl (cI, 4, .inl (fun j => nI ((sc 1) j)))), (sa 21, .inl (cI, 144, .inl (fun j => nI ((nx 1) j)))), (sa 30, .inr (3, [iN (0), iN (24), .ref (sa 31), iN (4), .ref (sa 32)])), (sa 32, .inl (cI, 4, .inl (fun j => nI ((sc 2) j)))), (sa 31, .inl (cI, 144, .inl (fun j => nI ((nx 2) j)))), (sa 40, .inr (3, [iN (0), iN (24), .ref (sa 41), iN (8), .ref (sa 42)])), (sa 42, .inl (cI, 4, .inl (fun j => nI ((sc 3) j)))), (sa 41, .inl (cI, 144, .inl (fun j => nI ((nx 3) j))))]) 3 0 dX9_advance_54 rfl rfl (by first | decide | omega) (by omega) rfl ?_
  refine gw_iinc C (v := nI (1)) (lv2 := [(4, iN (1)), (3, iN (b)), (0, .ref (sa 0)), (1, iN (d)), (2, iN (fc))]) 0 dX9_advance_55 rfl (by decide) (by omega) rfl ?_
  refine gw_goto C 11 dX9_advance_58 (by decide) ?_
  refine gw_ws (ws2 := [(sa 0, .inr (7, [.ref (sa 1), iN (0), iN (7), iN (10240), .ref (sa 2), .ref (sa 3), nv])), (sa 1, .inl (cI, 15, .inl (fun j => nI (Wy j)))), (sa 2, .inl (cF, 4, .inr (.inr (.inr (.inr (fq_ sa 4)))))), (sa 3, .inl (cI, 16 * 4, .inl (fun j => nI ((ad_ nx b fc Nm 1) j)))), x1, x2, (sa 10, .inr (0, [iN (1), iN (96), .ref (sa 11), .ref (sa 12)])), (sa 12, .inl (cI, 4, .inl (fun j => nI ((sc 0) j)))), (sa 11, .inl (cI, 576, .inl (fun j => nI ((nx 0) j)))), (sa 20, .inr (3, [iN (0), iN (24), .ref (sa 21), iN (0), .ref (sa 22)])), (sa 22, .inl (cI, 4, .inl (fun j => nI ((sc 1) j)))), (sa 21, .inl (cI, 144, .inl (fun j => nI ((nx 1) j)))), (sa 30, .inr (3, [iN (0), iN (24), .ref (sa 31), iN (4), .ref (sa 32)])), (sa 32, .inl (cI, 4, .inl (fun j => nI ((sc 2) j)))), (sa 31, .inl (cI, 144, .inl (fun j => nI ((nx 2) j)))), (sa 40, .inr (3, [iN (0), iN (24), .ref (sa 41), iN (8), .ref (sa 42)])), (sa 42, .inl (cI, 4, .inl (fun j => nI ((sc 3) j)))), (sa 41, .inl (cI, 144, .inl (fun j => nI ((nx 3) j))))]) rfl ?_
  refine gw_iload C 0 dX9_advance_11 rfl ?_
  refine gw_aload_n C 2 dX9_advance_13 rfl rfl ?_
  refine gw_get C 0 4 in_X9_advance_X9 dX9_advance_14 lk_X9_advance_21 rfl rfl (by decide) rfl rfl ?_
  refine gw_alen C 2 4 (4) dX9_advance_17 rfl rfl rfl ?_
  refine gw_icmp_ge C 61 dX9_advance_18 (by decide) (by omega) (by omega) (fun h136 => ?_) (fun h136 => ?_)
  · exact absurd h136 (by decide)
  have f1 : ad_ nx b fc Nm 1 (b + 1) < 24 := by rw [ad_fix nx b fc Nm 1 _ (by omega)]; exact h1
  refine gw_aload_n C 2 dX9_advance_21 rfl rfl ?_
  refine gw_get C 0 5 in_X9_advance_X9 dX9_advance_22 lk_X9_advance_25 rfl rfl (by decide) rfl rfl ?_
  refine gw_iload_n C 1 dX9_advance_25 rfl rfl ?_
  refine gw_iload C 0 dX9_advance_26 rfl ?_
  refine gw_iadd C dX9_advance_28 ?_
  refine gw_aload_n C 2 dX9_advance_29 rfl rfl ?_
  refine gw_get C 0 4 in_X9_advance_X9 dX9_advance_30 lk_X9_advance_21 rfl rfl (by decide) rfl rfl ?_
  refine gw_iload C 0 dX9_advance_33 rfl ?_
  refine gw_ald C (v := .ref (sa 20)) 2 4 dX9_advance_35 rfl rfl (by decide) (by decide) rfl ?_
  refine gw_get C 9 2 in_X9_advance_X5 dX9_advance_36 lk_X9_advance_83 rfl rfl (by decide) rfl rfl ?_
  refine gw_bipush C 6 dX9_advance_39 (by decide) ?_
  refine gw_aload_n C 2 dX9_advance_41 rfl rfl ?_
  refine gw_get C 0 5 in_X9_advance_X9 dX9_advance_42 lk_X9_advance_25 rfl rfl (by decide) rfl rfl ?_
  refine gw_iload_n C 1 dX9_advance_45 rfl rfl ?_
  refine gw_iload C 0 dX9_advance_46 rfl ?_
  refine gw_iadd C dX9_advance_48 ?_
  refine gw_ild C (v := nI ((ad_ nx b fc Nm 1) ((b) + (1)))) 3 0 dX9_advance_49 rfl rfl (by first | decide | omega) (by omega) rfl ?_
  refine gw_imul C dX9_advance_50 ?_
  refine gw_iload_n C 4 dX9_advance_51 rfl rfl ?_
  refine gw_iadd C dX9_advance_52 ?_
  refine gw_ild C (v := nI ((nx 1) (((6) * ((ad_ nx b fc Nm 1) ((b) + (1)))) + (fc)))) 11 0 dX9_advance_53 rfl rfl (by first | decide | omega) (by omega) rfl ?_
  refine gw_istN C (ws2 := [(sa 0, .inr (7, [.ref (sa 1), iN (0), iN (7), iN (10240), .ref (sa 2), .ref (sa 3), nv])), (sa 1, .inl (cI, 15, .inl (fun j => nI (Wy j)))), (sa 2, .inl (cF, 4, .inr (.inr (.inr (.inr (fq_ sa 4)))))), (sa 3, .inl (cI, 16 * 4, .inl (fun j => nI ((up1 (ad_ nx b fc Nm 1) ((b) + (1)) ((nx 1) (((6) * ((ad_ nx b fc Nm 1) ((b) + (1)))) + (fc)))) j)))), x1, x2, (sa 10, .inr (0, [iN (1), iN (96), .ref (sa 11), .ref (sa 12)])), (sa 12, .inl (cI, 4, .inl (fun j => nI ((sc 0) j)))), (sa 11, .inl (cI, 576, .inl (fun j => nI ((nx 0) j)))), (sa 20, .inr (3, [iN (0), iN (24), .ref (sa 21), iN (0), .ref (sa 22)])), (sa 22, .inl (cI, 4, .inl (fun j => nI ((sc 1) j)))), (sa 21, .inl (cI, 144, .inl (fun j => nI ((nx 1) j)))), (sa 30, .inr (3, [iN (0), iN (24), .ref (sa 31), iN (4), .ref (sa 32)])), (sa 32, .inl (cI, 4, .inl (fun j => nI ((sc 2) j)))), (sa 31, .inl (cI, 144, .inl (fun j => nI ((nx 2) j)))), (sa 40, .inr (3, [iN (0), iN (24), .ref (sa 41), iN (8), .ref (sa 42)])), (sa 42, .inl (cI, 4, .inl (fun j => nI ((sc 3) j)))), (sa 41, .inl (cI, 144, .inl (fun j => nI ((nx 3) j))))]) 3 0 dX9_advance_54 rfl rfl (by first | decide | omega) (by omega) rfl ?_
  refine gw_iinc C (v := nI (2)) (lv2 := [(4, iN (2)), (3, iN (b)), (0, .ref (sa 0)), (1, iN (d)), (2, iN (fc))]) 0 dX9_advance_55 rfl (by decide) (by omega) rfl ?_
  refine gw_goto C 11 dX9_advance_58 (by decide) ?_
  refine gw_ws (ws2 := [(sa 0, .inr (7, [.ref (sa 1), iN (0), iN (7), iN (10240), .ref (sa 2), .ref (sa 3), nv])), (sa 1, .inl (cI, 15, .inl (fun j => nI (Wy j)))), (sa 2, .inl (cF, 4, .inr (.inr (.inr (.inr (fq_ sa 4)))))), (sa 3, .inl (cI, 16 * 4, .inl (fun j => nI ((ad_ nx b fc Nm 2) j)))), x1, x2, (sa 10, .inr (0, [iN (1), iN (96), .ref (sa 11), .ref (sa 12)])), (sa 12, .inl (cI, 4, .inl (fun j => nI ((sc 0) j)))), (sa 11, .inl (cI, 576, .inl (fun j => nI ((nx 0) j)))), (sa 20, .inr (3, [iN (0), iN (24), .ref (sa 21), iN (0), .ref (sa 22)])), (sa 22, .inl (cI, 4, .inl (fun j => nI ((sc 1) j)))), (sa 21, .inl (cI, 144, .inl (fun j => nI ((nx 1) j)))), (sa 30, .inr (3, [iN (0), iN (24), .ref (sa 31), iN (4), .ref (sa 32)])), (sa 32, .inl (cI, 4, .inl (fun j => nI ((sc 2) j)))), (sa 31, .inl (cI, 144, .inl (fun j => nI ((nx 2) j)))), (sa 40, .inr (3, [iN (0), iN (24), .ref (sa 41), iN (8), .ref (sa 42)])), (sa 42, .inl (cI, 4, .inl (fun j => nI ((sc 3) j)))), (sa 41, .inl (cI, 144, .inl (fun j => nI ((nx 3) j))))]) rfl ?_
  refine gw_iload C 0 dX9_advance_11 rfl ?_
  refine gw_aload_n C 2 dX9_advance_13 rfl rfl ?_
  refine gw_get C 0 4 in_X9_advance_X9 dX9_advance_14 lk_X9_advance_21 rfl rfl (by decide) rfl rfl ?_
  refine gw_alen C 2 4 (4) dX9_advance_17 rfl rfl rfl ?_
  refine gw_icmp_ge C 61 dX9_advance_18 (by decide) (by omega) (by omega) (fun h137 => ?_) (fun h137 => ?_)
  · exact absurd h137 (by decide)
  have f2 : ad_ nx b fc Nm 2 (b + 2) < 24 := by rw [ad_fix nx b fc Nm 2 _ (by omega)]; exact h2
  refine gw_aload_n C 2 dX9_advance_21 rfl rfl ?_
  refine gw_get C 0 5 in_X9_advance_X9 dX9_advance_22 lk_X9_advance_25 rfl rfl (by decide) rfl rfl ?_
  refine gw_iload_n C 1 dX9_advance_25 rfl rfl ?_
  refine gw_iload C 0 dX9_advance_26 rfl ?_
  refine gw_iadd C dX9_advance_28 ?_
  refine gw_aload_n C 2 dX9_advance_29 rfl rfl ?_
  refine gw_get C 0 4 in_X9_advance_X9 dX9_advance_30 lk_X9_advance_21 rfl rfl (by decide) rfl rfl ?_
  refine gw_iload C 0 dX9_advance_33 rfl ?_
  refine gw_ald C (v := .ref (sa 30)) 2 4 dX9_advance_35 rfl rfl (by decide) (by decide) rfl ?_
  refine gw_get C 12 2 in_X9_advance_X5 dX9_advance_36 lk_X9_advance_83 rfl rfl (by decide) rfl rfl ?_
  refine gw_bipush C 6 dX9_advance_39 (by decide) ?_
  refine gw_aload_n C 2 dX9_advance_41 rfl rfl ?_
  refine gw_get C 0 5 in_X9_advance_X9 dX9_advance_42 lk_X9_advance_25 rfl rfl (by decide) rfl rfl ?_
  refine gw_iload_n C 1 dX9_advance_45 rfl rfl ?_
  refine gw_iload C 0 dX9_advance_46 rfl ?_
  refine gw_iadd C dX9_advance_48 ?_
  refine gw_ild C (v := nI ((ad_ nx b fc Nm 2) ((b) + (2)))) 3 0 dX9_advance_49 rfl rfl (by first | decide | omega) (by omega) rfl ?_
  refine gw_imul C dX9_advance_50 ?_
  refine gw_iload_n C 4 dX9_advance_51 rfl rfl ?_
  refine gw_iadd C dX9_advance_52 ?_
  refine gw_ild C (v := nI ((nx 2) (((6) * ((ad_ nx b fc Nm 2) ((b) + (2)))) + (fc)))) 14 0 dX9_advance_53 rfl rfl (by first | decide | omega) (by omega) rfl ?_
  refine gw_istN C (ws2 := [(sa 0, .inr (7, [.ref (sa 1), iN (0), iN (7), iN (10240), .ref (sa 2), .ref (sa 3), nv])), (sa 1, .inl (cI, 15, .inl (fun j => nI (Wy j)))), (sa 2, .inl (cF, 4, .inr (.inr (.inr (.inr (fq_ sa 4)))))), (sa 3, .inl (cI, 16 * 4, .inl (fun j => nI ((up1 (ad_ nx b fc Nm 2) ((b) + (2)) ((nx 2) (((6) * ((ad_ nx b fc Nm 2) ((b) + (2)))) + (fc)))) j)))), x1, x2, (sa 10, .inr (0, [iN (1), iN (96), .ref (sa 11), .ref (sa 12)])), (sa 12, .inl (cI, 4, .inl (fun j => nI ((sc 0) j)))), (sa 11, .inl (cI, 576, .inl (fun j => nI ((nx 0) j)))), (sa 20, .inr (3, [iN (0), iN (24), .ref (sa 21), iN (0), .ref (sa 22)])), (sa 22, .inl (cI, 4, .inl (fun j => nI ((sc 1) j)))), (sa 21, .inl (cI, 144, .inl (fun j => nI ((nx 1) j)))), (sa 30, .inr (3, [iN (0), iN (24), .ref (sa 31), iN (4), .ref (sa 32)])), (sa 32, .inl (cI, 4, .inl (fun j => nI ((sc 2) j)))), (sa 31, .inl (cI, 144, .inl (fun j => nI ((nx 2) j)))), (sa 40, .inr (3, [iN (0), iN (24), .ref (sa 41), iN (8), .ref (sa 42)])), (sa 42, .inl (cI, 4, .inl (fun j => nI ((sc 3) j)))), (sa 41, .inl (cI, 144, .inl (fun j => nI ((nx 3) j))))]) 3 0 dX9_advance_54 rfl rfl (by first | decide | omega) (by omega) rfl ?_
  refine gw_iinc C (v := nI (3)) (lv2 := [(4, iN (3)), (3, iN (b)), (0, .ref (sa 0)), (1, iN (d)), (2, iN (fc))]) 0 dX9_advance_55 rfl (by decide) (by omega) rfl ?_
  refine gw_goto C 11 dX9_advance_58 (by decide) ?_
  refine gw_ws (ws2 := [(sa 0, .inr (7, [.ref (sa 1), iN (0), iN (7), iN (10240), .ref (sa 2), .ref (sa 3), nv])), (sa 1, .inl (cI, 15, .inl (fun j => nI (Wy j)))), (sa 2, .inl (cF, 4, .inr (.inr (.inr (.inr (fq_ sa 4)))))), (sa 3, .inl (cI, 16 * 4, .inl (fun j => nI ((ad_ nx b fc Nm 3) j)))), x1, x2, (sa 10, .inr (0, [iN (1), iN (96), .ref (sa 11), .ref (sa 12)])), (sa 12, .inl (cI, 4, .inl (fun j => nI ((sc 0) j)))), (sa 11, .inl (cI, 576, .inl (fun j => nI ((nx 0) j)))), (sa 20, .inr (3, [iN (0), iN (24), .ref (sa 21), iN (0), .ref (sa 22)])), (sa 22, .inl (cI, 4, .inl (fun j => nI ((sc 1) j)))), (sa 21, .inl (cI, 144, .inl (fun j => nI ((nx 1) j)))), (sa 30, .inr (3, [iN (0), iN (24), .ref (sa 31), iN (4), .ref (sa 32)])), (sa 32, .inl (cI, 4, .inl (fun j => nI ((sc 2) j)))), (sa 31, .inl (cI, 144, .inl (fun j => nI ((nx 2) j)))), (sa 40, .inr (3, [iN (0), iN (24), .ref (sa 41), iN (8), .ref (sa 42)])), (sa 42, .inl (cI, 4, .inl (fun j => nI ((sc 3) j)))), (sa 41, .inl (cI, 144, .inl (fun j => nI ((nx 3) j))))]) rfl ?_
  refine gw_iload C 0 dX9_advance_11 rfl ?_
  refine gw_aload_n C 2 dX9_advance_13 rfl rfl ?_
  refine gw_get C 0 4 in_X9_advance_X9 dX9_advance_14 lk_X9_advance_21 rfl rfl (by decide) rfl rfl ?_
  refine gw_alen C 2 4 (4) dX9_advance_17 rfl rfl rfl ?_
  refine gw_icmp_ge C 61 dX9_advance_18 (by decide) (by omega) (by omega) (fun h138 => ?_) (fun h138 => ?_)
  · exact absurd h138 (by decide)
  have f3 : ad_ nx b fc Nm 3 (b + 3) < 24 := by rw [ad_fix nx b fc Nm 3 _ (by omega)]; exact h3
  refine gw_aload_n C 2 dX9_advance_21 rfl rfl ?_
  refine gw_get C 0 5 in_X9_advance_X9 dX9_advance_22 lk_X9_advance_25 rfl rfl (by decide) rfl rfl ?_
  refine gw_iload_n C 1 dX9_advance_25 rfl rfl ?_
  refine gw_iload C 0 dX9_advance_26 rfl ?_
  refine gw_iadd C dX9_advance_28 ?_
  refine gw_aload_n C 2 dX9_advance_29 rfl rfl ?_
  refine gw_get C 0 4 in_X9_advance_X9 dX9_advance_30 lk_X9_advance_21 rfl rfl (by decide) rfl rfl ?_
  refine gw_iload C 0 dX9_advance_33 rfl ?_
  refine gw_ald C (v := .ref (sa 40)) 2 4 dX9_advance_35 rfl rfl (by decide) (by decide) rfl ?_
  refine gw_get C 15 2 in_X9_advance_X5 dX9_advance_36 lk_X9_advance_83 rfl rfl (by decide) rfl rfl ?_
  refine gw_bipush C 6 dX9_advance_39 (by decide) ?_
  refine gw_aload_n C 2 dX9_advance_41 rfl rfl ?_
  refine gw_get C 0 5 in_X9_advance_X9 dX9_advance_42 lk_X9_advance_25 rfl rfl (by decide) rfl rfl ?_
  refine gw_iload_n C 1 dX9_advance_45 rfl rfl ?_
  refine gw_iload C 0 dX9_advance_46 rfl ?_
  refine gw_iadd C dX9_advance_48 ?_
  refine gw_ild C (v := nI ((ad_ nx b fc Nm 3) ((b) + (3)))) 3 0 dX9_advance_49 rfl rfl (by first | decide | omega) (by omega) rfl ?_
  refine gw_imul C dX9_advance_50 ?_
  refine gw_iload_n C 4 dX9_advance_51 rfl rfl ?_
  refine gw_iadd C dX9_advance_52 ?_
  refine gw_ild C (v := nI ((nx 3) (((6) * ((ad_ nx b fc Nm 3) ((b) + (3)))) + (fc)))) 17 0 dX9_advance_53 rfl rfl (by first | decide | omega) (by omega) rfl ?_
  refine gw_istN C (ws2 := [(sa 0, .inr (7, [.ref (sa 1), iN (0), iN (7), iN (10240), .ref (sa 2), .ref (sa 3), nv])), (sa 1, .inl (cI, 15, .inl (fun j => nI (Wy j)))), (sa 2, .inl (cF, 4, .inr (.inr (.inr (.inr (fq_ sa 4)))))), (sa 3, .inl (cI, 16 * 4, .inl (fun j => nI ((up1 (ad_ nx b fc Nm 3) ((b) + (3)) ((nx 3) (((6) * ((ad_ nx b fc Nm 3) ((b) + (3)))) + (fc)))) j)))), x1, x2, (sa 10, .inr (0, [iN (1), iN (96), .ref (sa 11), .ref (sa 12)])), (sa 12, .inl (cI, 4, .inl (fun j => nI ((sc 0) j)))), (sa 11, .inl (cI, 576, .inl (fun j => nI ((nx 0) j)))), (sa 20, .inr (3, [iN (0), iN (24), .ref (sa 21), iN (0), .ref (sa 22)])), (sa 22, .inl (cI, 4, .inl (fun j => nI ((sc 1) j)))), (sa 21, .inl (cI, 144, .inl (fun j => nI ((nx 1) j)))), (sa 30, .inr (3, [iN (0), iN (24), .ref (sa 31), iN (4), .ref (sa 32)])), (sa 32, .inl (cI, 4, .inl (fun j => nI ((sc 2) j)))), (sa 31, .inl (cI, 144, .inl (fun j => nI ((nx 2) j)))), (sa 40, .inr (3, [iN (0), iN (24), .ref (sa 41), iN (8), .ref (sa 42)])), (sa 42, .inl (cI, 4, .inl (fun j => nI ((sc 3) j)))), (sa 41, .inl (cI, 144, .inl (fun j => nI ((nx 3) j))))]) 3 0 dX9_advance_54 rfl rfl (by first | decide | omega) (by omega) rfl ?_
  refine gw_iinc C (v := nI (4)) (lv2 := [(4, iN (4)), (3, iN (b)), (0, .ref (sa 0)), (1, iN (d)), (2, iN (fc))]) 0 dX9_advance_55 rfl (by decide) (by omega) rfl ?_
  refine gw_goto C 11 dX9_advance_58 (by decide) ?_
  refine gw_ws (ws2 := [(sa 0, .inr (7, [.ref (sa 1), iN (0), iN (7), iN (10240), .ref (sa 2), .ref (sa 3), nv])), (sa 1, .inl (cI, 15, .inl (fun j => nI (Wy j)))), (sa 2, .inl (cF, 4, .inr (.inr (.inr (.inr (fq_ sa 4)))))), (sa 3, .inl (cI, 16 * 4, .inl (fun j => nI ((ad_ nx b fc Nm 4) j)))), x1, x2, (sa 10, .inr (0, [iN (1), iN (96), .ref (sa 11), .ref (sa 12)])), (sa 12, .inl (cI, 4, .inl (fun j => nI ((sc 0) j)))), (sa 11, .inl (cI, 576, .inl (fun j => nI ((nx 0) j)))), (sa 20, .inr (3, [iN (0), iN (24), .ref (sa 21), iN (0), .ref (sa 22)])), (sa 22, .inl (cI, 4, .inl (fun j => nI ((sc 1) j)))), (sa 21, .inl (cI, 144, .inl (fun j => nI ((nx 1) j)))), (sa 30, .inr (3, [iN (0), iN (24), .ref (sa 31), iN (4), .ref (sa 32)])), (sa 32, .inl (cI, 4, .inl (fun j => nI ((sc 2) j)))), (sa 31, .inl (cI, 144, .inl (fun j => nI ((nx 2) j)))), (sa 40, .inr (3, [iN (0), iN (24), .ref (sa 41), iN (8), .ref (sa 42)])), (sa 42, .inl (cI, 4, .inl (fun j => nI ((sc 3) j)))), (sa 41, .inl (cI, 144, .inl (fun j => nI ((nx 3) j))))]) rfl ?_
  refine gw_iload C 0 dX9_advance_11 rfl ?_
  refine gw_aload_n C 2 dX9_advance_13 rfl rfl ?_
  refine gw_get C 0 4 in_X9_advance_X9 dX9_advance_14 lk_X9_advance_21 rfl rfl (by decide) rfl rfl ?_
  refine gw_alen C 2 4 (4) dX9_advance_17 rfl rfl rfl ?_
  refine gw_icmp_ge C 61 dX9_advance_18 (by decide) (by omega) (by omega) (fun h139 => ?_) (fun h139 => ?_)
  rotate_left
  · exact absurd h139 (by decide)
  exact ret () dX9_advance_61 trivial (by rw [eb]; rfl) (Nat.le_refl 0) (Nat.le_refl 0)
set_option maxHeartbeats 4000000 in
set_option maxRecDepth 100000 in
theorem c_showState3 (l : Launch) (D : va_G) (cI cB cS cJ cF cG : ClassId) (tt : Nat → Nat) (sa : Nat → Nat) (Wy Nm : Nat → Nat) (nv : Value) (sc nx : Nat → Nat → Nat) (x1 : Nat × va_E) (x2 : Nat × va_E) (s : Nat) (hs : s < 2 ^ 31) : gw_CV (S := Unit) l yX9_showState wsX9_showState 0 0 0 0 D (mo_ty cI cB cS cJ cF cG) (zs tt) (sg_ws cI cF sa 4 0 7 10240 (nv) (Wy) (Nm) (x1 :: x2 :: fl3_ws cI sa sc nx)) [.ref (sa 0), iN s] (fun _ => True) (fun _ => sg_ws cI cF sa 4 0 7 10240 (nv) (Wy) (ss_N sz3 4 s Nm 4) (x1 :: x2 :: fl3_ws cI sa sc nx)) := by
  refine gw_CV.of (cc := cX9_showState) (maxL := 4) (zs_ok tt) (by decide) rfl (Nat.le_of_ble_eq_true rfl) ?_
  intro K C hkl hkn hkR hkD hmn ret
  have C : gw_x K cX9_showState RX9 wsX9_showState (mo_ty cI cB cS cJ cF cG) (zs tt) := C
  subst hkl hkD
  have hrc : (kR K).cells = 0 := by rw [hkR]
  have hrs : (kR K).slots = 0 := by rw [hkR]
  refine gw_iload_n C 1 dX9_showState_0 rfl rfl ?_
  refine gw_istore_n C (lv2 := [(2, iN (s)), (0, .ref (sa 0)), (1, iN (s))]) dX9_showState_1 rfl (by omega) rfl ?_
  refine gw_aload_n C 1 dX9_showState_2 rfl rfl ?_
  refine gw_get C 0 4 in_X9_showState_X9 dX9_showState_3 lk_X9_showState_21 rfl rfl (by decide) rfl rfl ?_
  refine gw_alen C 2 4 (4) dX9_showState_6 rfl rfl rfl ?_
  refine gw_iconst C 1 dX9_showState_7 (by decide) ?_
  refine gw_isub C dX9_showState_8 (by omega) ?_
  refine gw_istore_n C (lv2 := [(3, iN ((4) - (1))), (2, iN (s)), (0, .ref (sa 0)), (1, iN (s))]) dX9_showState_9 rfl (by omega) rfl ?_
  refine gw_lv (lv2 := [(3, iN 3), (2, iN s), (0, .ref (sa 0))]) [0, 1, 2] rfl ?_
  refine gw_iload_n C 0 dX9_showState_10 rfl rfl ?_
  refine gw_if_lt C 49 dX9_showState_11 (by decide) (by omega) (fun h140 => ?_) (fun h140 => ?_)
  · exact absurd h140 (by decide)
  refine gw_aload_n C 2 dX9_showState_14 rfl rfl ?_
  refine gw_get C 0 5 in_X9_showState_X9 dX9_showState_15 lk_X9_showState_25 rfl rfl (by decide) rfl rfl ?_
  refine gw_iload_n C 0 dX9_showState_18 rfl rfl ?_
  refine gw_iload_n C 1 dX9_showState_19 rfl rfl ?_
  refine gw_aload_n C 2 dX9_showState_20 rfl rfl ?_
  refine gw_get C 0 4 in_X9_showState_X9 dX9_showState_21 lk_X9_showState_21 rfl rfl (by decide) rfl rfl ?_
  refine gw_iload_n C 0 dX9_showState_24 rfl rfl ?_
  refine gw_ald C (v := .ref (sa 40)) 2 4 dX9_showState_25 rfl rfl (by decide) (by decide) rfl ?_
  refine gw_get C 15 1 in_X9_showState_X5 dX9_showState_26 lk_X9_showState_86 rfl rfl (by decide) rfl rfl ?_
  refine gw_irem C dX9_showState_29 (by omega) (by omega) (by omega) ?_
  refine gw_istN C (ws2 := [(sa 0, .inr (7, [.ref (sa 1), iN (0), iN (7), iN (10240), .ref (sa 2), .ref (sa 3), nv])), (sa 1, .inl (cI, 15, .inl (fun j => nI (Wy j)))), (sa 2, .inl (cF, 4, .inr (.inr (.inr (.inr (fq_ sa 4)))))), (sa 3, .inl (cI, 16 * 4, .inl (fun j => nI ((up1 Nm (3) ((s) % (24))) j)))), x1, x2, (sa 10, .inr (0, [iN (1), iN (96), .ref (sa 11), .ref (sa 12)])), (sa 12, .inl (cI, 4, .inl (fun j => nI ((sc 0) j)))), (sa 11, .inl (cI, 576, .inl (fun j => nI ((nx 0) j)))), (sa 20, .inr (3, [iN (0), iN (24), .ref (sa 21), iN (0), .ref (sa 22)])), (sa 22, .inl (cI, 4, .inl (fun j => nI ((sc 1) j)))), (sa 21, .inl (cI, 144, .inl (fun j => nI ((nx 1) j)))), (sa 30, .inr (3, [iN (0), iN (24), .ref (sa 31), iN (4), .ref (sa 32)])), (sa 32, .inl (cI, 4, .inl (fun j => nI ((sc 2) j)))), (sa 31, .inl (cI, 144, .inl (fun j => nI ((nx 2) j)))), (sa 40, .inr (3, [iN (0), iN (24), .ref (sa 41), iN (8), .ref (sa 42)])), (sa 42, .inl (cI, 4, .inl (fun j => nI ((sc 3) j)))), (sa 41, .inl (cI, 144, .inl (fun j => nI ((nx 3) j))))]) 3 0 dX9_showState_30 rfl rfl (by first | decide | omega) (by omega) rfl ?_
  refine gw_iload_n C 1 dX9_showState_31 rfl rfl ?_
  refine gw_aload_n C 2 dX9_showState_32 rfl rfl ?_
  refine gw_get C 0 4 in_X9_showState_X9 dX9_showState_33 lk_X9_showState_21 rfl rfl (by decide) rfl rfl ?_
  refine gw_iload_n C 0 dX9_showState_36 rfl rfl ?_
  refine gw_ald C (v := .ref (sa 40)) 2 4 dX9_showState_37 rfl rfl (by decide) (by decide) rfl ?_
  refine gw_get C 15 1 in_X9_showState_X5 dX9_showState_38 lk_X9_showState_86 rfl rfl (by decide) rfl rfl ?_
  refine gw_idiv C dX9_showState_41 (by omega) (by omega) (by omega) ?_
  refine gw_istore_n C (lv2 := [(2, iN ((s) / (24))), (3, iN (3)), (0, .ref (sa 0))]) dX9_showState_42 rfl (by omega) rfl ?_
  refine gw_iinc C (v := nI (2)) (lv2 := [(3, iN (2)), (2, iN ((s) / (24))), (0, .ref (sa 0))]) 1 dX9_showState_43 rfl (by decide) (by omega) rfl ?_
  refine gw_goto C 10 dX9_showState_46 (by decide) ?_
  refine gw_ws (ws2 := [(sa 0, .inr (7, [.ref (sa 1), iN (0), iN (7), iN (10240), .ref (sa 2), .ref (sa 3), nv])), (sa 1, .inl (cI, 15, .inl (fun j => nI (Wy j)))), (sa 2, .inl (cF, 4, .inr (.inr (.inr (.inr (fq_ sa 4)))))), (sa 3, .inl (cI, 16 * 4, .inl (fun j => nI ((ss_N sz3 4 s Nm 1) j)))), x1, x2, (sa 10, .inr (0, [iN (1), iN (96), .ref (sa 11), .ref (sa 12)])), (sa 12, .inl (cI, 4, .inl (fun j => nI ((sc 0) j)))), (sa 11, .inl (cI, 576, .inl (fun j => nI ((nx 0) j)))), (sa 20, .inr (3, [iN (0), iN (24), .ref (sa 21), iN (0), .ref (sa 22)])), (sa 22, .inl (cI, 4, .inl (fun j => nI ((sc 1) j)))), (sa 21, .inl (cI, 144, .inl (fun j => nI ((nx 1) j)))), (sa 30, .inr (3, [iN (0), iN (24), .ref (sa 31), iN (4), .ref (sa 32)])), (sa 32, .inl (cI, 4, .inl (fun j => nI ((sc 2) j)))), (sa 31, .inl (cI, 144, .inl (fun j => nI ((nx 2) j)))), (sa 40, .inr (3, [iN (0), iN (24), .ref (sa 41), iN (8), .ref (sa 42)])), (sa 42, .inl (cI, 4, .inl (fun j => nI ((sc 3) j)))), (sa 41, .inl (cI, 144, .inl (fun j => nI ((nx 3) j))))]) rfl ?_
  refine gw_iload_n C 0 dX9_showState_10 rfl rfl ?_
  refine gw_if_lt C 49 dX9_showState_11 (by decide) (by omega) (fun h141 => ?_) (fun h141 => ?_)
  · exact absurd h141 (by decide)
  refine gw_aload_n C 2 dX9_showState_14 rfl rfl ?_
  refine gw_get C 0 5 in_X9_showState_X9 dX9_showState_15 lk_X9_showState_25 rfl rfl (by decide) rfl rfl ?_
  refine gw_iload_n C 0 dX9_showState_18 rfl rfl ?_
  refine gw_iload_n C 1 dX9_showState_19 rfl rfl ?_
  refine gw_aload_n C 2 dX9_showState_20 rfl rfl ?_
  refine gw_get C 0 4 in_X9_showState_X9 dX9_showState_21 lk_X9_showState_21 rfl rfl (by decide) rfl rfl ?_
  refine gw_iload_n C 0 dX9_showState_24 rfl rfl ?_
  refine gw_ald C (v := .ref (sa 30)) 2 4 dX9_showState_25 rfl rfl (by decide) (by decide) rfl ?_
  refine gw_get C 12 1 in_X9_showState_X5 dX9_showState_26 lk_X9_showState_86 rfl rfl (by decide) rfl rfl ?_
  refine gw_irem C dX9_showState_29 (by omega) (by omega) (by omega) ?_
  refine gw_istN C (ws2 := [(sa 0, .inr (7, [.ref (sa 1), iN (0), iN (7), iN (10240), .ref (sa 2), .ref (sa 3), nv])), (sa 1, .inl (cI, 15, .inl (fun j => nI (Wy j)))), (sa 2, .inl (cF, 4, .inr (.inr (.inr (.inr (fq_ sa 4)))))), (sa 3, .inl (cI, 16 * 4, .inl (fun j => nI ((up1 (ss_N sz3 4 s Nm 1) (2) (((s) / (24)) % (24))) j)))), x1, x2, (sa 10, .inr (0, [iN (1), iN (96), .ref (sa 11), .ref (sa 12)])), (sa 12, .inl (cI, 4, .inl (fun j => nI ((sc 0) j)))), (sa 11, .inl (cI, 576, .inl (fun j => nI ((nx 0) j)))), (sa 20, .inr (3, [iN (0), iN (24), .ref (sa 21), iN (0), .ref (sa 22)])), (sa 22, .inl (cI, 4, .inl (fun j => nI ((sc 1) j)))), (sa 21, .inl (cI, 144, .inl (fun j => nI ((nx 1) j)))), (sa 30, .inr (3, [iN (0), iN (24), .ref (sa 31), iN (4), .ref (sa 32)])), (sa 32, .inl (cI, 4, .inl (fun j => nI ((sc 2) j)))), (sa 31, .inl (cI, 144, .inl (fun j => nI ((nx 2) j)))), (sa 40, .inr (3, [iN (0), iN (24), .ref (sa 41), iN (8), .ref (sa 42)])), (sa 42, .inl (cI, 4, .inl (fun j => nI ((sc 3) j)))), (sa 41, .inl (cI, 144, .inl (fun j => nI ((nx 3) j))))]) 3 0 dX9_showState_30 rfl rfl (by first | decide | omega) (by omega) rfl ?_
  refine gw_iload_n C 1 dX9_showState_31 rfl rfl ?_
  refine gw_aload_n C 2 dX9_showState_32 rfl rfl ?_
  refine gw_get C 0 4 in_X9_showState_X9 dX9_showState_33 lk_X9_showState_21 rfl rfl (by decide) rfl rfl ?_
  refine gw_iload_n C 0 dX9_showState_36 rfl rfl ?_
  refine gw_ald C (v := .ref (sa 30)) 2 4 dX9_showState_37 rfl rfl (by decide) (by decide) rfl ?_
  refine gw_get C 12 1 in_X9_showState_X5 dX9_showState_38 lk_X9_showState_86 rfl rfl (by decide) rfl rfl ?_
  refine gw_idiv C dX9_showState_41 (by omega) (by omega) (by omega) ?_
  refine gw_istore_n C (lv2 := [(2, iN (((s) / (24)) / (24))), (3, iN (2)), (0, .ref (sa 0))]) dX9_showState_42 rfl (by omega) rfl ?_
  refine gw_iinc C (v := nI (1)) (lv2 := [(3, iN (1)), (2, iN (((s) / (24)) / (24))), (0, .ref (sa 0))]) 1 dX9_showState_43 rfl (by decide) (by omega) rfl ?_
  refine gw_goto C 10 dX9_showState_46 (by decide) ?_
  refine gw_ws (ws2 := [(sa 0, .inr (7, [.ref (sa 1), iN (0), iN (7), iN (10240), .ref (sa 2), .ref (sa 3), nv])), (sa 1, .inl (cI, 15, .inl (fun j => nI (Wy j)))), (sa 2, .inl (cF, 4, .inr (.inr (.inr (.inr (fq_ sa 4)))))), (sa 3, .inl (cI, 16 * 4, .inl (fun j => nI ((ss_N sz3 4 s Nm 2) j)))), x1, x2, (sa 10, .inr (0, [iN (1), iN (96), .ref (sa 11), .ref (sa 12)])), (sa 12, .inl (cI, 4, .inl (fun j => nI ((sc 0) j)))), (sa 11, .inl (cI, 576, .inl (fun j => nI ((nx 0) j)))), (sa 20, .inr (3, [iN (0), iN (24), .ref (sa 21), iN (0), .ref (sa 22)])), (sa 22, .inl (cI, 4, .inl (fun j => nI ((sc 1) j)))), (sa 21, .inl (cI, 144, .inl (fun j => nI ((nx 1) j)))), (sa 30, .inr (3, [iN (0), iN (24), .ref (sa 31), iN (4), .ref (sa 32)])), (sa 32, .inl (cI, 4, .inl (fun j => nI ((sc 2) j)))), (sa 31, .inl (cI, 144, .inl (fun j => nI ((nx 2) j)))), (sa 40, .inr (3, [iN (0), iN (24), .ref (sa 41), iN (8), .ref (sa 42)])), (sa 42, .inl (cI, 4, .inl (fun j => nI ((sc 3) j)))), (sa 41, .inl (cI, 144, .inl (fun j => nI ((nx 3) j))))]) rfl ?_
  refine gw_iload_n C 0 dX9_showState_10 rfl rfl ?_
  refine gw_if_lt C 49 dX9_showState_11 (by decide) (by omega) (fun h142 => ?_) (fun h142 => ?_)
  · exact absurd h142 (by decide)
  refine gw_aload_n C 2 dX9_showState_14 rfl rfl ?_
  refine gw_get C 0 5 in_X9_showState_X9 dX9_showState_15 lk_X9_showState_25 rfl rfl (by decide) rfl rfl ?_
  refine gw_iload_n C 0 dX9_showState_18 rfl rfl ?_
  refine gw_iload_n C 1 dX9_showState_19 rfl rfl ?_
  refine gw_aload_n C 2 dX9_showState_20 rfl rfl ?_
  refine gw_get C 0 4 in_X9_showState_X9 dX9_showState_21 lk_X9_showState_21 rfl rfl (by decide) rfl rfl ?_
  refine gw_iload_n C 0 dX9_showState_24 rfl rfl ?_
  refine gw_ald C (v := .ref (sa 20)) 2 4 dX9_showState_25 rfl rfl (by decide) (by decide) rfl ?_
  refine gw_get C 9 1 in_X9_showState_X5 dX9_showState_26 lk_X9_showState_86 rfl rfl (by decide) rfl rfl ?_
  refine gw_irem C dX9_showState_29 (by omega) (by omega) (by omega) ?_
  refine gw_istN C (ws2 := [(sa 0, .inr (7, [.ref (sa 1), iN (0), iN (7), iN (10240), .ref (sa 2), .ref (sa 3), nv])), (sa 1, .inl (cI, 15, .inl (fun j => nI (Wy j)))), (sa 2, .inl (cF, 4, .inr (.inr (.inr (.inr (fq_ sa 4)))))), (sa 3, .inl (cI, 16 * 4, .inl (fun j => nI ((up1 (ss_N sz3 4 s Nm 2) (1) ((((s) / (24)) / (24)) % (24))) j)))), x1, x2, (sa 10, .inr (0, [iN (1), iN (96), .ref (sa 11), .ref (sa 12)])), (sa 12, .inl (cI, 4, .inl (fun j => nI ((sc 0) j)))), (sa 11, .inl (cI, 576, .inl (fun j => nI ((nx 0) j)))), (sa 20, .inr (3, [iN (0), iN (24), .ref (sa 21), iN (0), .ref (sa 22)])), (sa 22, .inl (cI, 4, .inl (fun j => nI ((sc 1) j)))), (sa 21, .inl (cI, 144, .inl (fun j => nI ((nx 1) j)))), (sa 30, .inr (3, [iN (0), iN (24), .ref (sa 31), iN (4), .ref (sa 32)])), (sa 32, .inl (cI, 4, .inl (fun j => nI ((sc 2) j)))), (sa 31, .inl (cI, 144, .inl (fun j => nI ((nx 2) j)))), (sa 40, .inr (3, [iN (0), iN (24), .ref (sa 41), iN (8), .ref (sa 42)])), (sa 42, .inl (cI, 4, .inl (fun j => nI ((sc 3) j)))), (sa 41, .inl (cI, 144, .inl (fun j => nI ((nx 3) j))))]) 3 0 dX9_showState_30 rfl rfl (by first | decide | omega) (by omega) rfl ?_
  refine gw_iload_n C 1 dX9_showState_31 rfl rfl ?_
  refine gw_aload_n C 2 dX9_showState_32 rfl rfl ?_
  refine gw_get C 0 4 in_X9_showState_X9 dX9_showState_33 lk_X9_showState_21 rfl rfl (by decide) rfl rfl ?_
  refine gw_iload_n C 0 dX9_showState_36 rfl rfl ?_
  refine gw_ald C (v := .ref (sa 20)) 2 4 dX9_showState_37 rfl rfl (by decide) (by decide) rfl ?_
  refine gw_get C 9 1 in_X9_showState_X5 dX9_showState_38 lk_X9_showState_86 rfl rfl (by decide) rfl rfl ?_
  refine gw_idiv C dX9_showState_41 (by omega) (by omega) (by omega) ?_
  refine gw_istore_n C (lv2 := [(2, iN ((((s) / (24)) / (24)) / (24))), (3, iN (1)), (0, .ref (sa 0))]) dX9_showState_42 rfl (by omega) rfl ?_
  refine gw_iinc C (v := nI (0)) (lv2 := [(3, iN (0)), (2, iN ((((s) / (24)) / (24)) / (24))), (0, .ref (sa 0))]) 1 dX9_showState_43 rfl (by decide) (by omega) rfl ?_
  refine gw_goto C 10 dX9_showState_46 (by decide) ?_
  refine gw_ws (ws2 := [(sa 0, .inr (7, [.ref (sa 1), iN (0), iN (7), iN (10240), .ref (sa 2), .ref (sa 3), nv])), (sa 1, .inl (cI, 15, .inl (fun j => nI (Wy j)))), (sa 2, .inl (cF, 4, .inr (.inr (.inr (.inr (fq_ sa 4)))))), (sa 3, .inl (cI, 16 * 4, .inl (fun j => nI ((ss_N sz3 4 s Nm 3) j)))), x1, x2, (sa 10, .inr (0, [iN (1), iN (96), .ref (sa 11), .ref (sa 12)])), (sa 12, .inl (cI, 4, .inl (fun j => nI ((sc 0) j)))), (sa 11, .inl (cI, 576, .inl (fun j => nI ((nx 0) j)))), (sa 20, .inr (3, [iN (0), iN (24), .ref (sa 21), iN (0), .ref (sa 22)])), (sa 22, .inl (cI, 4, .inl (fun j => nI ((sc 1) j)))), (sa 21, .inl (cI, 144, .inl (fun j => nI ((nx 1) j)))), (sa 30, .inr (3, [iN (0), iN (24), .ref (sa 31), iN (4), .ref (sa 32)])), (sa 32, .inl (cI, 4, .inl (fun j => nI ((sc 2) j)))), (sa 31, .inl (cI, 144, .inl (fun j => nI ((nx 2) j)))), (sa 40, .inr (3, [iN (0), iN (24), .ref (sa 41), iN (8), .ref (sa 42)])), (sa 42, .inl (cI, 4, .inl (fun j => nI ((sc 3) j)))), (sa 41, .inl (cI, 144, .inl (fun j => nI ((nx 3) j))))]) rfl ?_
  refine gw_iload_n C 0 dX9_showState_10 rfl rfl ?_
  refine gw_if_lt C 49 dX9_showState_11 (by decide) (by omega) (fun h143 => ?_) (fun h143 => ?_)
  · exact absurd h143 (by decide)
  refine gw_aload_n C 2 dX9_showState_14 rfl rfl ?_
  refine gw_get C 0 5 in_X9_showState_X9 dX9_showState_15 lk_X9_showState_25 rfl rfl (by decide) rfl rfl ?_
  refine gw_iload_n C 0 dX9_showState_18 rfl rfl ?_
  refine gw_iload_n C 1 dX9_showState_19 rfl rfl ?_
  refine gw_aload_n C 2 dX9_showState_20 rfl rfl ?_
  refine gw_get C 0 4 in_X9_showState_X9 dX9_showState_21 lk_X9_showState_21 rfl rfl (by decide) rfl rfl ?_
  refine gw_iload_n C 0 dX9_showState_24 rfl rfl ?_
  refine gw_ald C (v := .ref (sa 10)) 2 4 dX9_showState_25 rfl rfl (by decide) (by decide) rfl ?_
  refine gw_get C 6 1 in_X9_showState_X0 dX9_showState_26 lk_X9_showState_86 rfl rfl (by decide) rfl rfl ?_
  refine gw_irem C dX9_showState_29 (by omega) (by omega) (by omega) ?_
  refine gw_istN C (ws2 := [(sa 0, .inr (7, [.ref (sa 1), iN (0), iN (7), iN (10240), .ref (sa 2), .ref (sa 3), nv])), (sa 1, .inl (cI, 15, .inl (fun j => nI (Wy j)))), (sa 2, .inl (cF, 4, .inr (.inr (.inr (.inr (fq_ sa 4)))))), (sa 3, .inl (cI, 16 * 4, .inl (fun j => nI ((up1 (ss_N sz3 4 s Nm 3) (0) (((((s) / (24)) / (24)) / (24)) % (96))) j)))), x1, x2, (sa 10, .inr (0, [iN (1), iN (96), .ref (sa 11), .ref (sa 12)])), (sa 12, .inl (cI, 4, .inl (fun j => nI ((sc 0) j)))), (sa 11, .inl (cI, 576, .inl (fun j => nI ((nx 0) j)))), (sa 20, .inr (3, [iN (0), iN (24), .ref (sa 21), iN (0), .ref (sa 22)])), (sa 22, .inl (cI, 4, .inl (fun j => nI ((sc 1) j)))), (sa 21, .inl (cI, 144, .inl (fun j => nI ((nx 1) j)))), (sa 30, .inr (3, [iN (0), iN (24), .ref (sa 31), iN (4), .ref (sa 32)])), (sa 32, .inl (cI, 4, .inl (fun j => nI ((sc 2) j)))), (sa 31, .inl (cI, 144, .inl (fun j => nI ((nx 2) j)))), (sa 40, .inr (3, [iN (0), iN (24), .ref (sa 41), iN (8), .ref (sa 42)])), (sa 42, .inl (cI, 4, .inl (fun j => nI ((sc 3) j)))), (sa 41, .inl (cI, 144, .inl (fun j => nI ((nx 3) j))))]) 3 0 dX9_showState_30 rfl rfl (by first | decide | omega) (by omega) rfl ?_
  refine gw_iload_n C 1 dX9_showState_31 rfl rfl ?_
  refine gw_aload_n C 2 dX9_showState_32 rfl rfl ?_
  refine gw_get C 0 4 in_X9_showState_X9 dX9_showState_33 lk_X9_showState_21 rfl rfl (by decide) rfl rfl ?_
  refine gw_iload_n C 0 dX9_showState_36 rfl rfl ?_
  refine gw_ald C (v := .ref (sa 10)) 2 4 dX9_showState_37 rfl rfl (by decide) (by decide) rfl ?_
  refine gw_get C 6 1 in_X9_showState_X0 dX9_showState_38 lk_X9_showState_86 rfl rfl (by decide) rfl rfl ?_
  refine gw_idiv C dX9_showState_41 (by omega) (by omega) (by omega) ?_
  refine gw_istore_n C (lv2 := [(2, iN (((((s) / (24)) / (24)) / (24)) / (96))), (3, iN (0)), (0, .ref (sa 0))]) dX9_showState_42 rfl (by omega) rfl ?_
  refine gw_iinc C (v := nI (4294967295)) (lv2 := [(3, iN (4294967295)), (2, iN (((((s) / (24)) / (24)) / (24)) / (96))), (0, .ref (sa 0))]) 1 dX9_showState_43 rfl (by decide) (by omega) rfl ?_
  refine gw_goto C 10 dX9_showState_46 (by decide) ?_
  refine gw_ws (ws2 := [(sa 0, .inr (7, [.ref (sa 1), iN (0), iN (7), iN (10240), .ref (sa 2), .ref (sa 3), nv])), (sa 1, .inl (cI, 15, .inl (fun j => nI (Wy j)))), (sa 2, .inl (cF, 4, .inr (.inr (.inr (.inr (fq_ sa 4)))))), (sa 3, .inl (cI, 16 * 4, .inl (fun j => nI ((ss_N sz3 4 s Nm 4) j)))), x1, x2, (sa 10, .inr (0, [iN (1), iN (96), .ref (sa 11), .ref (sa 12)])), (sa 12, .inl (cI, 4, .inl (fun j => nI ((sc 0) j)))), (sa 11, .inl (cI, 576, .inl (fun j => nI ((nx 0) j)))), (sa 20, .inr (3, [iN (0), iN (24), .ref (sa 21), iN (0), .ref (sa 22)])), (sa 22, .inl (cI, 4, .inl (fun j => nI ((sc 1) j)))), (sa 21, .inl (cI, 144, .inl (fun j => nI ((nx 1) j)))), (sa 30, .inr (3, [iN (0), iN (24), .ref (sa 31), iN (4), .ref (sa 32)])), (sa 32, .inl (cI, 4, .inl (fun j => nI ((sc 2) j)))), (sa 31, .inl (cI, 144, .inl (fun j => nI ((nx 2) j)))), (sa 40, .inr (3, [iN (0), iN (24), .ref (sa 41), iN (8), .ref (sa 42)])), (sa 42, .inl (cI, 4, .inl (fun j => nI ((sc 3) j)))), (sa 41, .inl (cI, 144, .inl (fun j => nI ((nx 3) j))))]) rfl ?_
  refine gw_iload_n C 0 dX9_showState_10 rfl rfl ?_
  refine gw_if_lt32 C 49 dX9_showState_11 (by decide) (by omega) (fun h144 => ?_) (fun h144 => ?_)
  rotate_left
  · exact absurd h144 (by decide)
  exact ret () dX9_showState_49 trivial rfl (Nat.le_refl 0) (Nat.le_refl 0)
