theorem in_X0_init_X0 : ∀ w ∈ wsX00, w ∈ wsX0_init := fun _ h => List.mem_cons_of_mem _ (List.mem_append_left _ (List.mem_append_left _ (List.mem_append_left _ (List.mem_append_left _ (List.mem_append_right _ (h))))))
theorem in_X1_init_X1 : ∀ w ∈ wsX10, w ∈ wsX1_init := fun _ h => List.mem_cons_of_mem _ (List.mem_append_right _ (h))
theorem in_X1_init_X7 : ∀ w ∈ wsX70, w ∈ wsX1_init := fun _ h => List.mem_cons_of_mem _ (List.mem_append_left _ (List.mem_append_right _ (h)))
theorem in_X2_init_X0 : ∀ w ∈ wsX00, w ∈ wsX2_init := fun _ h => List.mem_cons_of_mem _ (List.mem_append_left _ (List.mem_append_left _ (List.mem_append_left _ (List.mem_append_left _ (List.mem_append_right _ (h))))))
theorem in_X2_init_X3 : ∀ w ∈ wsX30, w ∈ wsX2_init := fun _ h => List.mem_cons_of_mem _ (List.mem_append_left _ (List.mem_append_left _ (List.mem_append_left _ (List.mem_append_right _ (h)))))
theorem in_X2_init_X5 : ∀ w ∈ wsX50, w ∈ wsX2_init := fun _ h => List.mem_cons_of_mem _ (List.mem_append_left _ (List.mem_append_left _ (List.mem_append_right _ (h))))
theorem in_X2_init_X6 : ∀ w ∈ wsX60, w ∈ wsX2_init := fun _ h => List.mem_cons_of_mem _ (List.mem_append_left _ (List.mem_append_right _ (h)))
theorem in_X2_init_X8 : ∀ w ∈ wsX80, w ∈ wsX2_init := fun _ h => List.mem_cons_of_mem _ (List.mem_append_right _ (h))
theorem in_X5_init_X5 : ∀ w ∈ wsX50, w ∈ wsX5_init := fun _ h => List.mem_cons_of_mem _ (List.mem_append_left _ (List.mem_append_left _ (List.mem_append_left _ (List.mem_append_left _ (List.mem_append_right _ (h))))))
theorem in_X6_init_X6 : ∀ w ∈ wsX60, w ∈ wsX6_init := fun _ h => List.mem_cons_of_mem _ (List.mem_append_left _ (List.mem_append_left _ (List.mem_append_left _ (List.mem_append_left _ (List.mem_append_right _ (h))))))
theorem in_X8_init_X8 : ∀ w ∈ wsX80, w ∈ wsX8_init := fun _ h => List.mem_cons_of_mem _ (List.mem_append_left _ (List.mem_append_left _ (List.mem_append_left _ (List.mem_append_left _ (List.mem_append_right _ (h))))))
theorem in_X9_init_X9 : ∀ w ∈ wsX90, w ∈ wsX9_init := fun _ h => List.mem_cons_of_mem _ (List.mem_append_right _ (h))
theorem lk_X0_init_9 : Cond.fieldLink RX0 9 "StageCube$CornerOrders" "order" "[I" ∈ wsX0_init := by decide +kernel
theorem lk_X1_init_12 : Cond.fieldLink RX1 12 "StageCube$Cube" "corners" "LStageCube$Pieces;" ∈ wsX1_init := by decide +kernel
theorem lk_X1_init_18 : Cond.fieldLink RX1 18 "StageCube$Cube" "edges" "LStageCube$Pieces;" ∈ wsX1_init := by decide +kernel
theorem lk_X2_init_9 : Cond.fieldLink RX2 9 "StageCube$Feature" "ofCorners" "Z" ∈ wsX2_init := by decide +kernel
theorem lk_X2_init_15 : Cond.fieldLink RX2 15 "StageCube$Feature" "size" "I" ∈ wsX2_init := by decide +kernel
theorem lk_X5_init_9 : Cond.fieldLink RX5 9 "StageCube$Orders" "first" "I" ∈ wsX5_init := by decide +kernel
theorem lk_X5_init_15 : Cond.fieldLink RX5 15 "StageCube$Orders" "order" "[I" ∈ wsX5_init := by decide +kernel
theorem lk_X6_init_11 : Cond.fieldLink RX6 11 "StageCube$Pairings" "evens" "[I" ∈ wsX6_init := by decide +kernel
theorem lk_X6_init_17 : Cond.fieldLink RX6 17 "StageCube$Pairings" "odds" "[I" ∈ wsX6_init := by decide +kernel
theorem lk_X6_init_20 : Cond.fieldLink RX6 20 "StageCube$Pairings" "order" "[I" ∈ wsX6_init := by decide +kernel
theorem lk_X8_init_11 : Cond.fieldLink RX8 11 "StageCube$Places" "family" "I" ∈ wsX8_init := by decide +kernel
theorem lk_X8_init_17 : Cond.fieldLink RX8 17 "StageCube$Places" "positions" "I" ∈ wsX8_init := by decide +kernel
theorem lk_X9_init_9 : Cond.fieldLink RX9 9 "StageCube$Stage" "facesWithQuarters" "I" ∈ wsX9_init := by decide +kernel
theorem lk_X9_init_15 : Cond.fieldLink RX9 15 "StageCube$Stage" "reach" "I" ∈ wsX9_init := by decide +kernel
theorem lk_X9_init_18 : Cond.fieldLink RX9 18 "StageCube$Stage" "queueLength" "I" ∈ wsX9_init := by decide +kernel
theorem lk_X9_init_21 : Cond.fieldLink RX9 21 "StageCube$Stage" "features" "[LStageCube$Feature;" ∈ wsX9_init := by decide +kernel
theorem lk_X9_init_25 : Cond.fieldLink RX9 25 "StageCube$Stage" "numbers" "[I" ∈ wsX9_init := by decide +kernel
theorem lk_X9_init_29 : Cond.fieldLink RX9 29 "StageCube$Stage" "way" "[I" ∈ wsX9_init := by decide +kernel
set_option maxHeartbeats 4000000 in
set_option maxRecDepth 100000 in
theorem c_fi_X0_96 (l : Launch) (D : va_G) (cI cB cS cJ cF cG : ClassId) (tt : Nat → Nat) (ft : Nat) : gw_CV (S := Unit) l yX2_init wsX2_init 1 21 0 0 D (mo_ty cI cB cS cJ cF cG) (zs tt) ([(ft, .inr (0, [.int (0), .int (0), .null, .null]))]) [.ref ft, iN 1, iN 96] (fun _ => True) (fun _ => [(ft, .inr (0, [iN (1), iN (96), .null, .null]))]) := by
  refine gw_CV.of (cc := cX2_init) (maxL := 3) (zs_ok tt) (by decide) rfl (Nat.le_of_ble_eq_true rfl) ?_
  intro K C hkl hkn hkR hkD hmn ret
  have C : gw_x K cX2_init RX2 wsX2_init (mo_ty cI cB cS cJ cF cG) (zs tt) := C
  subst hkl hkD
  have hmn2 : (kM K).name = "<init>" := hmn
  have hrc : (kR K).cells = 0 := by rw [hkR]
  have hrs : (kR K).slots = 0 := by rw [hkR]
  refine gw_aload_n C 0 dX2_init_0 rfl rfl ?_
  refine gw_objInit C dX2_init_1 (by decide +kernel) (by decide +kernel) (by decide +kernel) (by rw [hkR]; decide) (by rw [hkR]; decide) ?_
  refine gw_aload_n C 0 dX2_init_4 rfl rfl ?_
  refine gw_iload_n C 1 dX2_init_5 rfl rfl ?_
  refine gw_putF C (ty := .boolean) (ws2 := [(ft, .inr (0, [iN (1), .int (0), .null, .null]))]) 0 0 tyX0 tyX0_ok nmX0 in_X2_init_X0 hmn2 dX2_init_6 lk_X2_init_9 rfl rfl (by decide) rfl rfl rfl (by decide +kernel) (by first | rfl | decide) (by first | rfl | decide) (Nat.le_of_ble_eq_true rfl) rfl ?_
  refine gw_aload_n C 0 dX2_init_9 rfl rfl ?_
  refine gw_iload_n C 2 dX2_init_10 rfl rfl ?_
  refine gw_putF C (ty := .int) (ws2 := [(ft, .inr (0, [iN (1), iN (96), .null, .null]))]) 0 1 tyX0 tyX0_ok nmX0 in_X2_init_X0 hmn2 dX2_init_11 lk_X2_init_15 rfl rfl (by decide) rfl rfl rfl (by decide +kernel) rfl rfl (Nat.le_of_ble_eq_true rfl) rfl ?_
  exact ret () dX2_init_14 trivial rfl (by decide) (by decide)
set_option maxHeartbeats 4000000 in
set_option maxRecDepth 100000 in
theorem c_fi_X3_2187 (l : Launch) (D : va_G) (cI cB cS cJ cF cG : ClassId) (tt : Nat → Nat) (ft : Nat) : gw_CV (S := Unit) l yX2_init wsX2_init 1 21 0 0 D (mo_ty cI cB cS cJ cF cG) (zs tt) ([(ft, .inr (2, [.int (0), .int (0), .null]))]) [.ref ft, iN 1, iN 2187] (fun _ => True) (fun _ => [(ft, .inr (2, [iN (1), iN (2187), .null]))]) := by
  refine gw_CV.of (cc := cX2_init) (maxL := 3) (zs_ok tt) (by decide) rfl (Nat.le_of_ble_eq_true rfl) ?_
  intro K C hkl hkn hkR hkD hmn ret
  have C : gw_x K cX2_init RX2 wsX2_init (mo_ty cI cB cS cJ cF cG) (zs tt) := C
  subst hkl hkD
  have hmn2 : (kM K).name = "<init>" := hmn
  have hrc : (kR K).cells = 0 := by rw [hkR]
  have hrs : (kR K).slots = 0 := by rw [hkR]
  refine gw_aload_n C 0 dX2_init_0 rfl rfl ?_
  refine gw_objInit C dX2_init_1 (by decide +kernel) (by decide +kernel) (by decide +kernel) (by rw [hkR]; decide) (by rw [hkR]; decide) ?_
  refine gw_aload_n C 0 dX2_init_4 rfl rfl ?_
  refine gw_iload_n C 1 dX2_init_5 rfl rfl ?_
  refine gw_putF C (ty := .boolean) (ws2 := [(ft, .inr (2, [iN (1), .int (0), .null]))]) 0 0 tyX3 tyX3_ok nmX3 in_X2_init_X3 hmn2 dX2_init_6 lk_X2_init_9 rfl rfl (by decide) rfl rfl rfl (by decide +kernel) (by first | rfl | decide) (by first | rfl | decide) (Nat.le_of_ble_eq_true rfl) rfl ?_
  refine gw_aload_n C 0 dX2_init_9 rfl rfl ?_
  refine gw_iload_n C 2 dX2_init_10 rfl rfl ?_
  refine gw_putF C (ty := .int) (ws2 := [(ft, .inr (2, [iN (1), iN (2187), .null]))]) 0 1 tyX3 tyX3_ok nmX3 in_X2_init_X3 hmn2 dX2_init_11 lk_X2_init_15 rfl rfl (by decide) rfl rfl rfl (by decide +kernel) rfl rfl (Nat.le_of_ble_eq_true rfl) rfl ?_
  exact ret () dX2_init_14 trivial rfl (by decide) (by decide)
set_option maxHeartbeats 4000000 in
set_option maxRecDepth 100000 in
theorem c_fi_X3_2048 (l : Launch) (D : va_G) (cI cB cS cJ cF cG : ClassId) (tt : Nat → Nat) (ft : Nat) : gw_CV (S := Unit) l yX2_init wsX2_init 1 21 0 0 D (mo_ty cI cB cS cJ cF cG) (zs tt) ([(ft, .inr (2, [.int (0), .int (0), .null]))]) [.ref ft, iN 0, iN 2048] (fun _ => True) (fun _ => [(ft, .inr (2, [iN (0), iN (2048), .null]))]) := by
  refine gw_CV.of (cc := cX2_init) (maxL := 3) (zs_ok tt) (by decide) rfl (Nat.le_of_ble_eq_true rfl) ?_
  intro K C hkl hkn hkR hkD hmn ret
  have C : gw_x K cX2_init RX2 wsX2_init (mo_ty cI cB cS cJ cF cG) (zs tt) := C
  subst hkl hkD
  have hmn2 : (kM K).name = "<init>" := hmn
  have hrc : (kR K).cells = 0 := by rw [hkR]
  have hrs : (kR K).slots = 0 := by rw [hkR]
  refine gw_aload_n C 0 dX2_init_0 rfl rfl ?_
  refine gw_objInit C dX2_init_1 (by decide +kernel) (by decide +kernel) (by decide +kernel) (by rw [hkR]; decide) (by rw [hkR]; decide) ?_
  refine gw_aload_n C 0 dX2_init_4 rfl rfl ?_
  refine gw_iload_n C 1 dX2_init_5 rfl rfl ?_
  refine gw_putF C (ty := .boolean) (ws2 := [(ft, .inr (2, [iN (0), .int (0), .null]))]) 0 0 tyX3 tyX3_ok nmX3 in_X2_init_X3 hmn2 dX2_init_6 lk_X2_init_9 rfl rfl (by decide) rfl rfl rfl (by decide +kernel) (by first | rfl | decide) (by first | rfl | decide) (Nat.le_of_ble_eq_true rfl) rfl ?_
  refine gw_aload_n C 0 dX2_init_9 rfl rfl ?_
  refine gw_iload_n C 2 dX2_init_10 rfl rfl ?_
  refine gw_putF C (ty := .int) (ws2 := [(ft, .inr (2, [iN (0), iN (2048), .null]))]) 0 1 tyX3 tyX3_ok nmX3 in_X2_init_X3 hmn2 dX2_init_11 lk_X2_init_15 rfl rfl (by decide) rfl rfl rfl (by decide +kernel) rfl rfl (Nat.le_of_ble_eq_true rfl) rfl ?_
  exact ret () dX2_init_14 trivial rfl (by decide) (by decide)
set_option maxHeartbeats 4000000 in
set_option maxRecDepth 100000 in
theorem c_fi_X5_24 (l : Launch) (D : va_G) (cI cB cS cJ cF cG : ClassId) (tt : Nat → Nat) (ft : Nat) : gw_CV (S := Unit) l yX2_init wsX2_init 1 21 0 0 D (mo_ty cI cB cS cJ cF cG) (zs tt) ([(ft, .inr (3, [.int (0), .int (0), .null, .int (0), .null]))]) [.ref ft, iN 0, iN 24] (fun _ => True) (fun _ => [(ft, .inr (3, [iN (0), iN (24), .null, .int (0), .null]))]) := by
  refine gw_CV.of (cc := cX2_init) (maxL := 3) (zs_ok tt) (by decide) rfl (Nat.le_of_ble_eq_true rfl) ?_
  intro K C hkl hkn hkR hkD hmn ret
  have C : gw_x K cX2_init RX2 wsX2_init (mo_ty cI cB cS cJ cF cG) (zs tt) := C
  subst hkl hkD
  have hmn2 : (kM K).name = "<init>" := hmn
  have hrc : (kR K).cells = 0 := by rw [hkR]
  have hrs : (kR K).slots = 0 := by rw [hkR]
  refine gw_aload_n C 0 dX2_init_0 rfl rfl ?_
  refine gw_objInit C dX2_init_1 (by decide +kernel) (by decide +kernel) (by decide +kernel) (by rw [hkR]; decide) (by rw [hkR]; decide) ?_
  refine gw_aload_n C 0 dX2_init_4 rfl rfl ?_
  refine gw_iload_n C 1 dX2_init_5 rfl rfl ?_
  refine gw_putF C (ty := .boolean) (ws2 := [(ft, .inr (3, [iN (0), .int (0), .null, .int (0), .null]))]) 0 0 tyX5 tyX5_ok nmX5 in_X2_init_X5 hmn2 dX2_init_6 lk_X2_init_9 rfl rfl (by decide) rfl rfl rfl (by decide +kernel) (by first | rfl | decide) (by first | rfl | decide) (Nat.le_of_ble_eq_true rfl) rfl ?_
  refine gw_aload_n C 0 dX2_init_9 rfl rfl ?_
  refine gw_iload_n C 2 dX2_init_10 rfl rfl ?_
  refine gw_putF C (ty := .int) (ws2 := [(ft, .inr (3, [iN (0), iN (24), .null, .int (0), .null]))]) 0 1 tyX5 tyX5_ok nmX5 in_X2_init_X5 hmn2 dX2_init_11 lk_X2_init_15 rfl rfl (by decide) rfl rfl rfl (by decide +kernel) rfl rfl (Nat.le_of_ble_eq_true rfl) rfl ?_
  exact ret () dX2_init_14 trivial rfl (by decide) (by decide)
set_option maxHeartbeats 4000000 in
set_option maxRecDepth 100000 in
theorem c_fi_X6_420 (l : Launch) (D : va_G) (cI cB cS cJ cF cG : ClassId) (tt : Nat → Nat) (ft : Nat) : gw_CV (S := Unit) l yX2_init wsX2_init 1 21 0 0 D (mo_ty cI cB cS cJ cF cG) (zs tt) ([(ft, .inr (4, [.int (0), .int (0), .null, .null, .null, .null]))]) [.ref ft, iN 1, iN 420] (fun _ => True) (fun _ => [(ft, .inr (4, [iN (1), iN (420), .null, .null, .null, .null]))]) := by
  refine gw_CV.of (cc := cX2_init) (maxL := 3) (zs_ok tt) (by decide) rfl (Nat.le_of_ble_eq_true rfl) ?_
  intro K C hkl hkn hkR hkD hmn ret
  have C : gw_x K cX2_init RX2 wsX2_init (mo_ty cI cB cS cJ cF cG) (zs tt) := C
  subst hkl hkD
  have hmn2 : (kM K).name = "<init>" := hmn
  have hrc : (kR K).cells = 0 := by rw [hkR]
  have hrs : (kR K).slots = 0 := by rw [hkR]
  refine gw_aload_n C 0 dX2_init_0 rfl rfl ?_
  refine gw_objInit C dX2_init_1 (by decide +kernel) (by decide +kernel) (by decide +kernel) (by rw [hkR]; decide) (by rw [hkR]; decide) ?_
  refine gw_aload_n C 0 dX2_init_4 rfl rfl ?_
  refine gw_iload_n C 1 dX2_init_5 rfl rfl ?_
  refine gw_putF C (ty := .boolean) (ws2 := [(ft, .inr (4, [iN (1), .int (0), .null, .null, .null, .null]))]) 0 0 tyX6 tyX6_ok nmX6 in_X2_init_X6 hmn2 dX2_init_6 lk_X2_init_9 rfl rfl (by decide) rfl rfl rfl (by decide +kernel) (by first | rfl | decide) (by first | rfl | decide) (Nat.le_of_ble_eq_true rfl) rfl ?_
  refine gw_aload_n C 0 dX2_init_9 rfl rfl ?_
  refine gw_iload_n C 2 dX2_init_10 rfl rfl ?_
  refine gw_putF C (ty := .int) (ws2 := [(ft, .inr (4, [iN (1), iN (420), .null, .null, .null, .null]))]) 0 1 tyX6 tyX6_ok nmX6 in_X2_init_X6 hmn2 dX2_init_11 lk_X2_init_15 rfl rfl (by decide) rfl rfl rfl (by decide +kernel) rfl rfl (Nat.le_of_ble_eq_true rfl) rfl ?_
  exact ret () dX2_init_14 trivial rfl (by decide) (by decide)
set_option maxHeartbeats 4000000 in
set_option maxRecDepth 100000 in
theorem c_fi_X8_495 (l : Launch) (D : va_G) (cI cB cS cJ cF cG : ClassId) (tt : Nat → Nat) (ft : Nat) : gw_CV (S := Unit) l yX2_init wsX2_init 1 21 0 0 D (mo_ty cI cB cS cJ cF cG) (zs tt) ([(ft, .inr (6, [.int (0), .int (0), .null, .int (0), .int (0)]))]) [.ref ft, iN 0, iN 495] (fun _ => True) (fun _ => [(ft, .inr (6, [iN (0), iN (495), .null, .int (0), .int (0)]))]) := by
  refine gw_CV.of (cc := cX2_init) (maxL := 3) (zs_ok tt) (by decide) rfl (Nat.le_of_ble_eq_true rfl) ?_
  intro K C hkl hkn hkR hkD hmn ret
  have C : gw_x K cX2_init RX2 wsX2_init (mo_ty cI cB cS cJ cF cG) (zs tt) := C
  subst hkl hkD
  have hmn2 : (kM K).name = "<init>" := hmn
  have hrc : (kR K).cells = 0 := by rw [hkR]
  have hrs : (kR K).slots = 0 := by rw [hkR]
  refine gw_aload_n C 0 dX2_init_0 rfl rfl ?_
  refine gw_objInit C dX2_init_1 (by decide +kernel) (by decide +kernel) (by decide +kernel) (by rw [hkR]; decide) (by rw [hkR]; decide) ?_
  refine gw_aload_n C 0 dX2_init_4 rfl rfl ?_
  refine gw_iload_n C 1 dX2_init_5 rfl rfl ?_
  refine gw_putF C (ty := .boolean) (ws2 := [(ft, .inr (6, [iN (0), .int (0), .null, .int (0), .int (0)]))]) 0 0 tyX8 tyX8_ok nmX8 in_X2_init_X8 hmn2 dX2_init_6 lk_X2_init_9 rfl rfl (by decide) rfl rfl rfl (by decide +kernel) (by first | rfl | decide) (by first | rfl | decide) (Nat.le_of_ble_eq_true rfl) rfl ?_
  refine gw_aload_n C 0 dX2_init_9 rfl rfl ?_
  refine gw_iload_n C 2 dX2_init_10 rfl rfl ?_
  refine gw_putF C (ty := .int) (ws2 := [(ft, .inr (6, [iN (0), iN (495), .null, .int (0), .int (0)]))]) 0 1 tyX8 tyX8_ok nmX8 in_X2_init_X8 hmn2 dX2_init_11 lk_X2_init_15 rfl rfl (by decide) rfl rfl rfl (by decide +kernel) rfl rfl (Nat.le_of_ble_eq_true rfl) rfl ?_
  exact ret () dX2_init_14 trivial rfl (by decide) (by decide)
set_option maxHeartbeats 4000000 in
set_option maxRecDepth 100000 in
theorem c_fi_X8_70 (l : Launch) (D : va_G) (cI cB cS cJ cF cG : ClassId) (tt : Nat → Nat) (ft : Nat) : gw_CV (S := Unit) l yX2_init wsX2_init 1 21 0 0 D (mo_ty cI cB cS cJ cF cG) (zs tt) ([(ft, .inr (6, [.int (0), .int (0), .null, .int (0), .int (0)]))]) [.ref ft, iN 0, iN 70] (fun _ => True) (fun _ => [(ft, .inr (6, [iN (0), iN (70), .null, .int (0), .int (0)]))]) := by
  refine gw_CV.of (cc := cX2_init) (maxL := 3) (zs_ok tt) (by decide) rfl (Nat.le_of_ble_eq_true rfl) ?_
  intro K C hkl hkn hkR hkD hmn ret
  have C : gw_x K cX2_init RX2 wsX2_init (mo_ty cI cB cS cJ cF cG) (zs tt) := C
  subst hkl hkD
  have hmn2 : (kM K).name = "<init>" := hmn
  have hrc : (kR K).cells = 0 := by rw [hkR]
  have hrs : (kR K).slots = 0 := by rw [hkR]
  refine gw_aload_n C 0 dX2_init_0 rfl rfl ?_
  refine gw_objInit C dX2_init_1 (by decide +kernel) (by decide +kernel) (by decide +kernel) (by rw [hkR]; decide) (by rw [hkR]; decide) ?_
  refine gw_aload_n C 0 dX2_init_4 rfl rfl ?_
  refine gw_iload_n C 1 dX2_init_5 rfl rfl ?_
  refine gw_putF C (ty := .boolean) (ws2 := [(ft, .inr (6, [iN (0), .int (0), .null, .int (0), .int (0)]))]) 0 0 tyX8 tyX8_ok nmX8 in_X2_init_X8 hmn2 dX2_init_6 lk_X2_init_9 rfl rfl (by decide) rfl rfl rfl (by decide +kernel) (by first | rfl | decide) (by first | rfl | decide) (Nat.le_of_ble_eq_true rfl) rfl ?_
  refine gw_aload_n C 0 dX2_init_9 rfl rfl ?_
  refine gw_iload_n C 2 dX2_init_10 rfl rfl ?_
  refine gw_putF C (ty := .int) (ws2 := [(ft, .inr (6, [iN (0), iN (70), .null, .int (0), .int (0)]))]) 0 1 tyX8 tyX8_ok nmX8 in_X2_init_X8 hmn2 dX2_init_11 lk_X2_init_15 rfl rfl (by decide) rfl rfl rfl (by decide +kernel) rfl rfl (Nat.le_of_ble_eq_true rfl) rfl ?_
  exact ret () dX2_init_14 trivial rfl (by decide) (by decide)
set_option maxHeartbeats 4000000 in
set_option maxRecDepth 100000 in
theorem c_i_co (l : Launch) (D : va_G) (cI cB cS cJ cF cG : ClassId) (tt : Nat → Nat) (ft : Nat) : gw_CV (S := Nat) l yX0_init wsX0_init 2 43 1 4 D (mo_ty cI cB cS cJ cF cG) (zs tt) ([(ft, .inr (0, [.int (0), .int (0), .null, .null]))]) [.ref ft] (fun _ => True) (fun u => [(ft, .inr (0, [iN (1), iN (96), .null, .ref (u)])), (u, .inl (cI, 4, .inl (fun j => nI ((fun _ => 0) j))))]) := by
  refine gw_CV.of (cc := cX0_init) (maxL := 1) (zs_ok tt) (by decide) rfl (Nat.le_of_ble_eq_true rfl) ?_
  intro K C hkl hkn hkR hkD hmn ret
  have C : gw_x K cX0_init RX0 wsX0_init (mo_ty cI cB cS cJ cF cG) (zs tt) := C
  subst hkl hkD
  have hmn2 : (kM K).name = "<init>" := hmn
  have hrc : (kR K).cells = 1 := by rw [hkR]
  have hrs : (kR K).slots = 4 := by rw [hkR]
  refine gw_aload_n C 0 dX0_init_0 rfl rfl ?_
  refine gw_iconst C 1 dX0_init_1 (by decide) ?_
  refine gw_bipush C 96 dX0_init_2 (by decide) ?_
  refine gw_callIV (n := 2) (wr := []) C (c_fi_X0_96 (kl K) (kD K) cI cB cS cJ cF cG tt ft) gX0_init_X2_init rfl (by decide +kernel) (by decide +kernel) (by decide +kernel) rfl (by decide +kernel) dX0_init_4 (by rw [hkR]; decide) (by rw [hrc, hrs]; decide) [0] [] rfl rfl rfl rfl (by decide) rfl (Nat.le_of_ble_eq_true rfl) rfl (fun z hz => ?_)
  refine gw_ws (ws2 := [(ft, .inr (0, [iN (1), iN (96), .null, .null]))]) rfl ?_
  refine gw_aload_n C 0 dX0_init_7 rfl rfl ?_
  refine gw_iconst C 4 dX0_init_8 (by decide) ?_
  refine gw_newa C 0 dX0_init_9 rfl (by decide +kernel) rfl (fun _ _ h => h) (a0 := (4, .inl (fun _ => 0))) (fun _ => rfl) (by decide) (by decide) (by omega) (by omega) (fun oa => ?_)
  refine gw_ws (ws2 := [(ft, .inr (0, [iN (1), iN (96), .null, .null])), (oa, .inl (cI, 4, .inl (fun j => nI (((fun _ => 0)) j))))]) rfl ?_
  refine gw_putF C (ty := (.array .int)) (ws2 := [(ft, .inr (0, [iN (1), iN (96), .null, .ref (oa)])), (oa, .inl (cI, 4, .inl (fun j => nI (((fun _ => 0)) j))))]) 0 3 tyX0 tyX0_ok nmX0 in_X0_init_X0 hmn2 dX0_init_11 lk_X0_init_9 rfl rfl (by decide) rfl rfl rfl (by decide +kernel) rfl rfl (Nat.le_of_ble_eq_true rfl) rfl ?_
  exact ret oa dX0_init_14 trivial rfl (by decide) (by decide)
set_option maxHeartbeats 4000000 in
set_option maxRecDepth 100000 in
theorem c_i_mc (l : Launch) (D : va_G) (cI cB cS cJ cF cG : ClassId) (tt : Nat → Nat) (ft : Nat) : gw_CV (S := Unit) l yX3_init wsX3_init 2 43 0 0 D (mo_ty cI cB cS cJ cF cG) (zs tt) ([(ft, .inr (2, [.int (0), .int (0), .null]))]) [.ref ft, iN 1] (fun _ => True) (fun u => [(ft, .inr (2, [iN (1), iN (2187), .null]))]) := by
  refine gw_CV.of (cc := cX3_init) (maxL := 2) (zs_ok tt) (by decide) rfl (Nat.le_of_ble_eq_true rfl) ?_
  intro K C hkl hkn hkR hkD hmn ret
  have C : gw_x K cX3_init RX3 wsX3_init (mo_ty cI cB cS cJ cF cG) (zs tt) := C
  subst hkl hkD
  have hmn2 : (kM K).name = "<init>" := hmn
  have hrc : (kR K).cells = 0 := by rw [hkR]
  have hrs : (kR K).slots = 0 := by rw [hkR]
  refine gw_aload_n C 0 dX3_init_0 rfl rfl ?_
  refine gw_iload_n C 1 dX3_init_1 rfl rfl ?_
  refine gw_iload_n C 1 dX3_init_2 rfl rfl ?_
  refine gw_if_eq C 12 dX3_init_3 (by decide) (by omega) (fun h63 => ?_) (fun h63 => ?_)
  · exact absurd h63 (by decide)
  refine gw_sipush C 2187 dX3_init_6 (by decide) ?_
  refine gw_goto C 15 dX3_init_9 (by decide) ?_
  refine gw_callIV (n := 2) (wr := []) C (c_fi_X3_2187 (kl K) (kD K) cI cB cS cJ cF cG tt ft) gX3_init_X2_init rfl (by decide +kernel) (by decide +kernel) (by decide +kernel) rfl (by decide +kernel) dX3_init_15 (by rw [hkR]; decide) (by rw [hrc, hrs]; decide) [0] [] rfl rfl rfl rfl (by decide) rfl (Nat.le_of_ble_eq_true rfl) rfl (fun z hz => ?_)
  refine gw_ws (ws2 := [(ft, .inr (2, [iN (1), iN (2187), .null]))]) rfl ?_
  exact ret () dX3_init_18 trivial rfl (by decide) (by decide)
set_option maxHeartbeats 4000000 in
set_option maxRecDepth 100000 in
theorem c_i_me (l : Launch) (D : va_G) (cI cB cS cJ cF cG : ClassId) (tt : Nat → Nat) (ft : Nat) : gw_CV (S := Unit) l yX3_init wsX3_init 2 43 0 0 D (mo_ty cI cB cS cJ cF cG) (zs tt) ([(ft, .inr (2, [.int (0), .int (0), .null]))]) [.ref ft, iN 0] (fun _ => True) (fun u => [(ft, .inr (2, [iN (0), iN (2048), .null]))]) := by
  refine gw_CV.of (cc := cX3_init) (maxL := 2) (zs_ok tt) (by decide) rfl (Nat.le_of_ble_eq_true rfl) ?_
  intro K C hkl hkn hkR hkD hmn ret
  have C : gw_x K cX3_init RX3 wsX3_init (mo_ty cI cB cS cJ cF cG) (zs tt) := C
  subst hkl hkD
  have hmn2 : (kM K).name = "<init>" := hmn
  have hrc : (kR K).cells = 0 := by rw [hkR]
  have hrs : (kR K).slots = 0 := by rw [hkR]
  refine gw_aload_n C 0 dX3_init_0 rfl rfl ?_
  refine gw_iload_n C 1 dX3_init_1 rfl rfl ?_
  refine gw_iload_n C 1 dX3_init_2 rfl rfl ?_
  refine gw_if_eq C 12 dX3_init_3 (by decide) (by omega) (fun h64 => ?_) (fun h64 => ?_)
  rotate_left
  · first | exact absurd (by decide) h64 | exact absurd h64 (by decide)
  refine gw_sipush C 2048 dX3_init_12 (by decide) ?_
  refine gw_callIV (n := 2) (wr := []) C (c_fi_X3_2048 (kl K) (kD K) cI cB cS cJ cF cG tt ft) gX3_init_X2_init rfl (by decide +kernel) (by decide +kernel) (by decide +kernel) rfl (by decide +kernel) dX3_init_15 (by rw [hkR]; decide) (by rw [hrc, hrs]; decide) [0] [] rfl rfl rfl rfl (by decide) rfl (Nat.le_of_ble_eq_true rfl) rfl (fun z hz => ?_)
  refine gw_ws (ws2 := [(ft, .inr (2, [iN (0), iN (2048), .null]))]) rfl ?_
  exact ret () dX3_init_18 trivial rfl (by decide) (by decide)
set_option maxHeartbeats 4000000 in
set_option maxRecDepth 100000 in
theorem c_i_or0 (l : Launch) (D : va_G) (cI cB cS cJ cF cG : ClassId) (tt : Nat → Nat) (ft : Nat) : gw_CV (S := Nat) l yX5_init wsX5_init 2 43 1 4 D (mo_ty cI cB cS cJ cF cG) (zs tt) ([(ft, .inr (3, [.int (0), .int (0), .null, .int (0), .null]))]) [.ref ft, iN 0] (fun _ => True) (fun u => [(ft, .inr (3, [iN (0), iN (24), .null, iN (0), .ref (u)])), (u, .inl (cI, 4, .inl (fun j => nI ((fun _ => 0) j))))]) := by
  refine gw_CV.of (cc := cX5_init) (maxL := 2) (zs_ok tt) (by decide) rfl (Nat.le_of_ble_eq_true rfl) ?_
  intro K C hkl hkn hkR hkD hmn ret
  have C : gw_x K cX5_init RX5 wsX5_init (mo_ty cI cB cS cJ cF cG) (zs tt) := C
  subst hkl hkD
  have hmn2 : (kM K).name = "<init>" := hmn
  have hrc : (kR K).cells = 1 := by rw [hkR]
  have hrs : (kR K).slots = 4 := by rw [hkR]
  refine gw_aload_n C 0 dX5_init_0 rfl rfl ?_
  refine gw_iconst C 0 dX5_init_1 (by decide) ?_
  refine gw_bipush C 24 dX5_init_2 (by decide) ?_
  refine gw_callIV (n := 2) (wr := []) C (c_fi_X5_24 (kl K) (kD K) cI cB cS cJ cF cG tt ft) gX5_init_X2_init rfl (by decide +kernel) (by decide +kernel) (by decide +kernel) rfl (by decide +kernel) dX5_init_4 (by rw [hkR]; decide) (by rw [hrc, hrs]; decide) [0] [] rfl rfl rfl rfl (by decide) rfl (Nat.le_of_ble_eq_true rfl) rfl (fun z hz => ?_)
  refine gw_ws (ws2 := [(ft, .inr (3, [iN (0), iN (24), .null, .int (0), .null]))]) rfl ?_
  refine gw_aload_n C 0 dX5_init_7 rfl rfl ?_
  refine gw_iconst C 4 dX5_init_8 (by decide) ?_
  refine gw_iload_n C 1 dX5_init_9 rfl rfl ?_
  refine gw_imul C dX5_init_10 ?_
  refine gw_putF C (ty := .int) (ws2 := [(ft, .inr (3, [iN (0), iN (24), .null, iN ((4) * (0)), .null]))]) 0 3 tyX5 tyX5_ok nmX5 in_X5_init_X5 hmn2 dX5_init_11 lk_X5_init_9 rfl rfl (by decide) rfl rfl rfl (by decide +kernel) rfl rfl (Nat.le_of_ble_eq_true rfl) rfl ?_
  refine gw_aload_n C 0 dX5_init_14 rfl rfl ?_
  refine gw_iconst C 4 dX5_init_15 (by decide) ?_
  refine gw_newa C 0 dX5_init_16 rfl (by decide +kernel) rfl (fun _ _ h => h) (a0 := (4, .inl (fun _ => 0))) (fun _ => rfl) (by decide) (by decide) (by omega) (by omega) (fun oa => ?_)
  refine gw_ws (ws2 := [(ft, .inr (3, [iN (0), iN (24), .null, iN ((4) * (0)), .null])), (oa, .inl (cI, 4, .inl (fun j => nI (((fun _ => 0)) j))))]) rfl ?_
  refine gw_putF C (ty := (.array .int)) (ws2 := [(ft, .inr (3, [iN (0), iN (24), .null, iN ((4) * (0)), .ref (oa)])), (oa, .inl (cI, 4, .inl (fun j => nI (((fun _ => 0)) j))))]) 0 4 tyX5 tyX5_ok nmX5 in_X5_init_X5 hmn2 dX5_init_18 lk_X5_init_15 rfl rfl (by decide) rfl rfl rfl (by decide +kernel) rfl rfl (Nat.le_of_ble_eq_true rfl) rfl ?_
  exact ret oa dX5_init_21 trivial rfl (by decide) (by decide)
set_option maxHeartbeats 4000000 in
set_option maxRecDepth 100000 in
theorem c_i_or1 (l : Launch) (D : va_G) (cI cB cS cJ cF cG : ClassId) (tt : Nat → Nat) (ft : Nat) : gw_CV (S := Nat) l yX5_init wsX5_init 2 43 1 4 D (mo_ty cI cB cS cJ cF cG) (zs tt) ([(ft, .inr (3, [.int (0), .int (0), .null, .int (0), .null]))]) [.ref ft, iN 1] (fun _ => True) (fun u => [(ft, .inr (3, [iN (0), iN (24), .null, iN (4), .ref (u)])), (u, .inl (cI, 4, .inl (fun j => nI ((fun _ => 0) j))))]) := by
  refine gw_CV.of (cc := cX5_init) (maxL := 2) (zs_ok tt) (by decide) rfl (Nat.le_of_ble_eq_true rfl) ?_
  intro K C hkl hkn hkR hkD hmn ret
  have C : gw_x K cX5_init RX5 wsX5_init (mo_ty cI cB cS cJ cF cG) (zs tt) := C
  subst hkl hkD
  have hmn2 : (kM K).name = "<init>" := hmn
  have hrc : (kR K).cells = 1 := by rw [hkR]
  have hrs : (kR K).slots = 4 := by rw [hkR]
  refine gw_aload_n C 0 dX5_init_0 rfl rfl ?_
  refine gw_iconst C 0 dX5_init_1 (by decide) ?_
  refine gw_bipush C 24 dX5_init_2 (by decide) ?_
  refine gw_callIV (n := 2) (wr := []) C (c_fi_X5_24 (kl K) (kD K) cI cB cS cJ cF cG tt ft) gX5_init_X2_init rfl (by decide +kernel) (by decide +kernel) (by decide +kernel) rfl (by decide +kernel) dX5_init_4 (by rw [hkR]; decide) (by rw [hrc, hrs]; decide) [0] [] rfl rfl rfl rfl (by decide) rfl (Nat.le_of_ble_eq_true rfl) rfl (fun z hz => ?_)
  refine gw_ws (ws2 := [(ft, .inr (3, [iN (0), iN (24), .null, .int (0), .null]))]) rfl ?_
  refine gw_aload_n C 0 dX5_init_7 rfl rfl ?_
  refine gw_iconst C 4 dX5_init_8 (by decide) ?_
  refine gw_iload_n C 1 dX5_init_9 rfl rfl ?_
  refine gw_imul C dX5_init_10 ?_
  refine gw_putF C (ty := .int) (ws2 := [(ft, .inr (3, [iN (0), iN (24), .null, iN ((4) * (1)), .null]))]) 0 3 tyX5 tyX5_ok nmX5 in_X5_init_X5 hmn2 dX5_init_11 lk_X5_init_9 rfl rfl (by decide) rfl rfl rfl (by decide +kernel) rfl rfl (Nat.le_of_ble_eq_true rfl) rfl ?_
  refine gw_aload_n C 0 dX5_init_14 rfl rfl ?_
  refine gw_iconst C 4 dX5_init_15 (by decide) ?_
  refine gw_newa C 0 dX5_init_16 rfl (by decide +kernel) rfl (fun _ _ h => h) (a0 := (4, .inl (fun _ => 0))) (fun _ => rfl) (by decide) (by decide) (by omega) (by omega) (fun oa => ?_)
  refine gw_ws (ws2 := [(ft, .inr (3, [iN (0), iN (24), .null, iN ((4) * (1)), .null])), (oa, .inl (cI, 4, .inl (fun j => nI (((fun _ => 0)) j))))]) rfl ?_
  refine gw_putF C (ty := (.array .int)) (ws2 := [(ft, .inr (3, [iN (0), iN (24), .null, iN ((4) * (1)), .ref (oa)])), (oa, .inl (cI, 4, .inl (fun j => nI (((fun _ => 0)) j))))]) 0 4 tyX5 tyX5_ok nmX5 in_X5_init_X5 hmn2 dX5_init_18 lk_X5_init_15 rfl rfl (by decide) rfl rfl rfl (by decide +kernel) rfl rfl (Nat.le_of_ble_eq_true rfl) rfl ?_
  exact ret oa dX5_init_21 trivial rfl (by decide) (by decide)
set_option maxHeartbeats 4000000 in
set_option maxRecDepth 100000 in
theorem c_i_or2 (l : Launch) (D : va_G) (cI cB cS cJ cF cG : ClassId) (tt : Nat → Nat) (ft : Nat) : gw_CV (S := Nat) l yX5_init wsX5_init 2 43 1 4 D (mo_ty cI cB cS cJ cF cG) (zs tt) ([(ft, .inr (3, [.int (0), .int (0), .null, .int (0), .null]))]) [.ref ft, iN 2] (fun _ => True) (fun u => [(ft, .inr (3, [iN (0), iN (24), .null, iN (8), .ref (u)])), (u, .inl (cI, 4, .inl (fun j => nI ((fun _ => 0) j))))]) := by
  refine gw_CV.of (cc := cX5_init) (maxL := 2) (zs_ok tt) (by decide) rfl (Nat.le_of_ble_eq_true rfl) ?_
  intro K C hkl hkn hkR hkD hmn ret
  have C : gw_x K cX5_init RX5 wsX5_init (mo_ty cI cB cS cJ cF cG) (zs tt) := C
  subst hkl hkD
  have hmn2 : (kM K).name = "<init>" := hmn
  have hrc : (kR K).cells = 1 := by rw [hkR]
  have hrs : (kR K).slots = 4 := by rw [hkR]
  refine gw_aload_n C 0 dX5_init_0 rfl rfl ?_
  refine gw_iconst C 0 dX5_init_1 (by decide) ?_
  refine gw_bipush C 24 dX5_init_2 (by decide) ?_
  refine gw_callIV (n := 2) (wr := []) C (c_fi_X5_24 (kl K) (kD K) cI cB cS cJ cF cG tt ft) gX5_init_X2_init rfl (by decide +kernel) (by decide +kernel) (by decide +kernel) rfl (by decide +kernel) dX5_init_4 (by rw [hkR]; decide) (by rw [hrc, hrs]; decide) [0] [] rfl rfl rfl rfl (by decide) rfl (Nat.le_of_ble_eq_true rfl) rfl (fun z hz => ?_)
  refine gw_ws (ws2 := [(ft, .inr (3, [iN (0), iN (24), .null, .int (0), .null]))]) rfl ?_
  refine gw_aload_n C 0 dX5_init_7 rfl rfl ?_
  refine gw_iconst C 4 dX5_init_8 (by decide) ?_
  refine gw_iload_n C 1 dX5_init_9 rfl rfl ?_
  refine gw_imul C dX5_init_10 ?_
  refine gw_putF C (ty := .int) (ws2 := [(ft, .inr (3, [iN (0), iN (24), .null, iN ((4) * (2)), .null]))]) 0 3 tyX5 tyX5_ok nmX5 in_X5_init_X5 hmn2 dX5_init_11 lk_X5_init_9 rfl rfl (by decide) rfl rfl rfl (by decide +kernel) rfl rfl (Nat.le_of_ble_eq_true rfl) rfl ?_
  refine gw_aload_n C 0 dX5_init_14 rfl rfl ?_
  refine gw_iconst C 4 dX5_init_15 (by decide) ?_
  refine gw_newa C 0 dX5_init_16 rfl (by decide +kernel) rfl (fun _ _ h => h) (a0 := (4, .inl (fun _ => 0))) (fun _ => rfl) (by decide) (by decide) (by omega) (by omega) (fun oa => ?_)
  refine gw_ws (ws2 := [(ft, .inr (3, [iN (0), iN (24), .null, iN ((4) * (2)), .null])), (oa, .inl (cI, 4, .inl (fun j => nI (((fun _ => 0)) j))))]) rfl ?_
  refine gw_putF C (ty := (.array .int)) (ws2 := [(ft, .inr (3, [iN (0), iN (24), .null, iN ((4) * (2)), .ref (oa)])), (oa, .inl (cI, 4, .inl (fun j => nI (((fun _ => 0)) j))))]) 0 4 tyX5 tyX5_ok nmX5 in_X5_init_X5 hmn2 dX5_init_18 lk_X5_init_15 rfl rfl (by decide) rfl rfl rfl (by decide +kernel) rfl rfl (Nat.le_of_ble_eq_true rfl) rfl ?_
  exact ret oa dX5_init_21 trivial rfl (by decide) (by decide)
set_option maxHeartbeats 4000000 in
set_option maxRecDepth 100000 in
theorem c_i_pa (l : Launch) (D : va_G) (cI cB cS cJ cF cG : ClassId) (tt : Nat → Nat) (ft : Nat) : gw_CV (S := Nat × Nat × Nat) l yX6_init wsX6_init 2 43 3 20 D (mo_ty cI cB cS cJ cF cG) (zs tt) ([(ft, .inr (4, [.int (0), .int (0), .null, .null, .null, .null]))]) [.ref ft] (fun _ => True) (fun u => [(ft, .inr (4, [iN (1), iN (420), .null, .ref (u.1), .ref (u.2.1), .ref (u.2.2)])), (u.1, .inl (cI, 8, .inl (fun j => nI ((fun _ => 0) j)))), (u.2.1, .inl (cI, 8, .inl (fun j => nI ((fun _ => 0) j)))), (u.2.2, .inl (cI, 4, .inl (fun j => nI ((fun _ => 0) j))))]) := by
  refine gw_CV.of (cc := cX6_init) (maxL := 1) (zs_ok tt) (by decide) rfl (Nat.le_of_ble_eq_true rfl) ?_
  intro K C hkl hkn hkR hkD hmn ret
  have C : gw_x K cX6_init RX6 wsX6_init (mo_ty cI cB cS cJ cF cG) (zs tt) := C
  subst hkl hkD
  have hmn2 : (kM K).name = "<init>" := hmn
  have hrc : (kR K).cells = 3 := by rw [hkR]
  have hrs : (kR K).slots = 20 := by rw [hkR]
  refine gw_aload_n C 0 dX6_init_0 rfl rfl ?_
  refine gw_iconst C 1 dX6_init_1 (by decide) ?_
  refine gw_sipush C 420 dX6_init_2 (by decide) ?_
  refine gw_callIV (n := 2) (wr := []) C (c_fi_X6_420 (kl K) (kD K) cI cB cS cJ cF cG tt ft) gX6_init_X2_init rfl (by decide +kernel) (by decide +kernel) (by decide +kernel) rfl (by decide +kernel) dX6_init_5 (by rw [hkR]; decide) (by rw [hrc, hrs]; decide) [0] [] rfl rfl rfl rfl (by decide) rfl (Nat.le_of_ble_eq_true rfl) rfl (fun z hz => ?_)
  refine gw_ws (ws2 := [(ft, .inr (4, [iN (1), iN (420), .null, .null, .null, .null]))]) rfl ?_
  refine gw_aload_n C 0 dX6_init_8 rfl rfl ?_
  refine gw_bipush C 8 dX6_init_9 (by decide) ?_
  refine gw_newa C 0 dX6_init_11 rfl (by decide +kernel) rfl (fun _ _ h => h) (a0 := (8, .inl (fun _ => 0))) (fun _ => rfl) (by decide) (by decide) (by omega) (by omega) (fun ea => ?_)
  refine gw_ws (ws2 := [(ft, .inr (4, [iN (1), iN (420), .null, .null, .null, .null])), (ea, .inl (cI, 8, .inl (fun j => nI (((fun _ => 0)) j))))]) rfl ?_
  refine gw_putF C (ty := (.array .int)) (ws2 := [(ft, .inr (4, [iN (1), iN (420), .null, .ref (ea), .null, .null])), (ea, .inl (cI, 8, .inl (fun j => nI (((fun _ => 0)) j))))]) 0 3 tyX6 tyX6_ok nmX6 in_X6_init_X6 hmn2 dX6_init_13 lk_X6_init_11 rfl rfl (by decide) rfl rfl rfl (by decide +kernel) rfl rfl (Nat.le_of_ble_eq_true rfl) rfl ?_
  refine gw_aload_n C 0 dX6_init_16 rfl rfl ?_
  refine gw_bipush C 8 dX6_init_17 (by decide) ?_
  refine gw_newa C 0 dX6_init_19 rfl (by decide +kernel) rfl (fun _ _ h => h) (a0 := (8, .inl (fun _ => 0))) (fun _ => rfl) (by decide) (by decide) (by omega) (by omega) (fun da => ?_)
  refine gw_ws (ws2 := [(ft, .inr (4, [iN (1), iN (420), .null, .ref (ea), .null, .null])), (ea, .inl (cI, 8, .inl (fun j => nI (((fun _ => 0)) j)))), (da, .inl (cI, 8, .inl (fun j => nI (((fun _ => 0)) j))))]) rfl ?_
  refine gw_putF C (ty := (.array .int)) (ws2 := [(ft, .inr (4, [iN (1), iN (420), .null, .ref (ea), .ref (da), .null])), (ea, .inl (cI, 8, .inl (fun j => nI (((fun _ => 0)) j)))), (da, .inl (cI, 8, .inl (fun j => nI (((fun _ => 0)) j))))]) 0 4 tyX6 tyX6_ok nmX6 in_X6_init_X6 hmn2 dX6_init_21 lk_X6_init_17 rfl rfl (by decide) rfl rfl rfl (by decide +kernel) rfl rfl (Nat.le_of_ble_eq_true rfl) rfl ?_
  refine gw_aload_n C 0 dX6_init_24 rfl rfl ?_
  refine gw_iconst C 4 dX6_init_25 (by decide) ?_
  refine gw_newa C 0 dX6_init_26 rfl (by decide +kernel) rfl (fun _ _ h => h) (a0 := (4, .inl (fun _ => 0))) (fun _ => rfl) (by decide) (by decide) (by omega) (by omega) (fun oa => ?_)
  refine gw_ws (ws2 := [(ft, .inr (4, [iN (1), iN (420), .null, .ref (ea), .ref (da), .null])), (ea, .inl (cI, 8, .inl (fun j => nI (((fun _ => 0)) j)))), (da, .inl (cI, 8, .inl (fun j => nI (((fun _ => 0)) j)))), (oa, .inl (cI, 4, .inl (fun j => nI (((fun _ => 0)) j))))]) rfl ?_
  refine gw_putF C (ty := (.array .int)) (ws2 := [(ft, .inr (4, [iN (1), iN (420), .null, .ref (ea), .ref (da), .ref (oa)])), (ea, .inl (cI, 8, .inl (fun j => nI (((fun _ => 0)) j)))), (da, .inl (cI, 8, .inl (fun j => nI (((fun _ => 0)) j)))), (oa, .inl (cI, 4, .inl (fun j => nI (((fun _ => 0)) j))))]) 0 5 tyX6 tyX6_ok nmX6 in_X6_init_X6 hmn2 dX6_init_28 lk_X6_init_20 rfl rfl (by decide) rfl rfl rfl (by decide +kernel) rfl rfl (Nat.le_of_ble_eq_true rfl) rfl ?_
  exact ret (ea, da, oa) dX6_init_31 trivial rfl (by decide) (by decide)
set_option maxHeartbeats 4000000 in
set_option maxRecDepth 100000 in
theorem c_i_pl12 (l : Launch) (D : va_G) (cI cB cS cJ cF cG : ClassId) (tt : Nat → Nat) (ft : Nat) : gw_CV (S := Unit) l yX8_init wsX8_init 2 43 0 0 D (mo_ty cI cB cS cJ cF cG) (zs tt) ([(ft, .inr (6, [.int (0), .int (0), .null, .int (0), .int (0)]))]) [.ref ft, iN 2, iN 12] (fun _ => True) (fun u => [(ft, .inr (6, [iN (0), iN (495), .null, iN (2), iN (12)]))]) := by
  refine gw_CV.of (cc := cX8_init) (maxL := 3) (zs_ok tt) (by decide) rfl (Nat.le_of_ble_eq_true rfl) ?_
  intro K C hkl hkn hkR hkD hmn ret
  have C : gw_x K cX8_init RX8 wsX8_init (mo_ty cI cB cS cJ cF cG) (zs tt) := C
  subst hkl hkD
  have hmn2 : (kM K).name = "<init>" := hmn
  have hrc : (kR K).cells = 0 := by rw [hkR]
  have hrs : (kR K).slots = 0 := by rw [hkR]
  refine gw_aload_n C 0 dX8_init_0 rfl rfl ?_
  refine gw_iconst C 0 dX8_init_1 (by decide) ?_
  refine gw_iload_n C 2 dX8_init_2 rfl rfl ?_
  refine gw_bipush C 12 dX8_init_3 (by decide) ?_
  refine gw_icmp_ne C 14 dX8_init_5 (by decide) (by omega) (by omega) (fun h65 => ?_) (fun h65 => ?_)
  · exact absurd h65 (by decide)
  refine gw_sipush C 495 dX8_init_8 (by decide) ?_
  refine gw_goto C 16 dX8_init_11 (by decide) ?_
  refine gw_callIV (n := 2) (wr := []) C (c_fi_X8_495 (kl K) (kD K) cI cB cS cJ cF cG tt ft) gX8_init_X2_init rfl (by decide +kernel) (by decide +kernel) (by decide +kernel) rfl (by decide +kernel) dX8_init_16 (by rw [hkR]; decide) (by rw [hrc, hrs]; decide) [0] [] rfl rfl rfl rfl (by decide) rfl (Nat.le_of_ble_eq_true rfl) rfl (fun z hz => ?_)
  refine gw_ws (ws2 := [(ft, .inr (6, [iN (0), iN (495), .null, .int (0), .int (0)]))]) rfl ?_
  refine gw_aload_n C 0 dX8_init_19 rfl rfl ?_
  refine gw_iload_n C 1 dX8_init_20 rfl rfl ?_
  refine gw_putF C (ty := .int) (ws2 := [(ft, .inr (6, [iN (0), iN (495), .null, iN (2), .int (0)]))]) 0 3 tyX8 tyX8_ok nmX8 in_X8_init_X8 hmn2 dX8_init_21 lk_X8_init_11 rfl rfl (by decide) rfl rfl rfl (by decide +kernel) rfl rfl (Nat.le_of_ble_eq_true rfl) rfl ?_
  refine gw_aload_n C 0 dX8_init_24 rfl rfl ?_
  refine gw_iload_n C 2 dX8_init_25 rfl rfl ?_
  refine gw_putF C (ty := .int) (ws2 := [(ft, .inr (6, [iN (0), iN (495), .null, iN (2), iN (12)]))]) 0 4 tyX8 tyX8_ok nmX8 in_X8_init_X8 hmn2 dX8_init_26 lk_X8_init_17 rfl rfl (by decide) rfl rfl rfl (by decide +kernel) rfl rfl (Nat.le_of_ble_eq_true rfl) rfl ?_
  exact ret () dX8_init_29 trivial rfl (by decide) (by decide)
set_option maxHeartbeats 4000000 in
set_option maxRecDepth 100000 in
theorem c_i_pl8 (l : Launch) (D : va_G) (cI cB cS cJ cF cG : ClassId) (tt : Nat → Nat) (ft : Nat) : gw_CV (S := Unit) l yX8_init wsX8_init 2 43 0 0 D (mo_ty cI cB cS cJ cF cG) (zs tt) ([(ft, .inr (6, [.int (0), .int (0), .null, .int (0), .int (0)]))]) [.ref ft, iN 0, iN 8] (fun _ => True) (fun u => [(ft, .inr (6, [iN (0), iN (70), .null, iN (0), iN (8)]))]) := by
  refine gw_CV.of (cc := cX8_init) (maxL := 3) (zs_ok tt) (by decide) rfl (Nat.le_of_ble_eq_true rfl) ?_
  intro K C hkl hkn hkR hkD hmn ret
  have C : gw_x K cX8_init RX8 wsX8_init (mo_ty cI cB cS cJ cF cG) (zs tt) := C
  subst hkl hkD
  have hmn2 : (kM K).name = "<init>" := hmn
  have hrc : (kR K).cells = 0 := by rw [hkR]
  have hrs : (kR K).slots = 0 := by rw [hkR]
  refine gw_aload_n C 0 dX8_init_0 rfl rfl ?_
  refine gw_iconst C 0 dX8_init_1 (by decide) ?_
  refine gw_iload_n C 2 dX8_init_2 rfl rfl ?_
  refine gw_bipush C 12 dX8_init_3 (by decide) ?_
  refine gw_icmp_ne C 14 dX8_init_5 (by decide) (by omega) (by omega) (fun h66 => ?_) (fun h66 => ?_)
  rotate_left
  · first | exact absurd (by decide) h66 | exact absurd h66 (by decide)
  refine gw_bipush C 70 dX8_init_14 (by decide) ?_
  refine gw_callIV (n := 2) (wr := []) C (c_fi_X8_70 (kl K) (kD K) cI cB cS cJ cF cG tt ft) gX8_init_X2_init rfl (by decide +kernel) (by decide +kernel) (by decide +kernel) rfl (by decide +kernel) dX8_init_16 (by rw [hkR]; decide) (by rw [hrc, hrs]; decide) [0] [] rfl rfl rfl rfl (by decide) rfl (Nat.le_of_ble_eq_true rfl) rfl (fun z hz => ?_)
  refine gw_ws (ws2 := [(ft, .inr (6, [iN (0), iN (70), .null, .int (0), .int (0)]))]) rfl ?_
  refine gw_aload_n C 0 dX8_init_19 rfl rfl ?_
  refine gw_iload_n C 1 dX8_init_20 rfl rfl ?_
  refine gw_putF C (ty := .int) (ws2 := [(ft, .inr (6, [iN (0), iN (70), .null, iN (0), .int (0)]))]) 0 3 tyX8 tyX8_ok nmX8 in_X8_init_X8 hmn2 dX8_init_21 lk_X8_init_11 rfl rfl (by decide) rfl rfl rfl (by decide +kernel) rfl rfl (Nat.le_of_ble_eq_true rfl) rfl ?_
  refine gw_aload_n C 0 dX8_init_24 rfl rfl ?_
  refine gw_iload_n C 2 dX8_init_25 rfl rfl ?_
  refine gw_putF C (ty := .int) (ws2 := [(ft, .inr (6, [iN (0), iN (70), .null, iN (0), iN (8)]))]) 0 4 tyX8 tyX8_ok nmX8 in_X8_init_X8 hmn2 dX8_init_26 lk_X8_init_17 rfl rfl (by decide) rfl rfl rfl (by decide +kernel) rfl rfl (Nat.le_of_ble_eq_true rfl) rfl ?_
  exact ret () dX8_init_29 trivial rfl (by decide) (by decide)
set_option maxHeartbeats 4000000 in
set_option maxRecDepth 100000 in
theorem c_cinit (l : Launch) (D : va_G) (cI cB cS cJ cF cG : ClassId) (tt : Nat → Nat) (c0 : Nat) : gw_CV (S := Nat → Nat) l yX1_init wsX1_init 2 42 6 52 D (mo_ty cI cB cS cJ cF cG) (zs tt) ([(c0, .inr (1, [.null, .null]))]) [.ref c0] (fun u => u 0 = c0) (fun u => cb_ws cI tt u (rs_P (fun _ => 0) 8) (rs_M (fun _ => 0) 8) (rs_P (fun _ => 0) 12) (rs_M (fun _ => 0) 12)) := by
  refine gw_CV.of (cc := cX1_init) (maxL := 1) (zs_ok tt) (by decide) rfl (Nat.le_of_ble_eq_true rfl) ?_
  intro K C hkl hkn hkR hkD hmn ret
  have C : gw_x K cX1_init RX1 wsX1_init (mo_ty cI cB cS cJ cF cG) (zs tt) := C
  subst hkl hkD
  have hmn2 : (kM K).name = "<init>" := hmn
  have hrc : (kR K).cells = 6 := by rw [hkR]
  have hrs : (kR K).slots = 52 := by rw [hkR]
  refine gw_aload_n C 0 dX1_init_0 rfl rfl ?_
  refine gw_objInit C dX1_init_1 (by decide +kernel) (by decide +kernel) (by decide +kernel) (by rw [hkR]; decide) (by rw [hkR]; decide) ?_
  refine gw_aload_n C 0 dX1_init_4 rfl rfl ?_
  refine gw_new C (ci := 5) (fs := [.int (0), .int (0), .null, .null, .null, .null]) tyX7 tyX7_ok in_X1_init_X7 dX1_init_5 (by decide +kernel) (by decide +kernel) (by decide +kernel) rfl (fun j hj => by rcases (show j = 0 ∨ j = 1 ∨ j = 2 ∨ j = 3 ∨ j = 4 ∨ j = 5 by omega) with h | h | h | h | h | h <;> subst h <;> rfl) (by omega) (by omega) (fun p1 => ?_)
  refine gw_ws (ws2 := [(c0, .inr (1, [.null, .null])), (p1, .inr (5, [.int (0), .int (0), .null, .null, .null, .null]))]) rfl ?_
  refine gw_dup C dX1_init_8 rfl ?_
  refine gw_iconst C 1 dX1_init_9 (by decide) ?_
  refine gw_callIV (n := 1) (wr := [(c0, .inr (1, [.null, .null]))]) C (c_pinitC (kl K) (kD K) cI cB cS cJ cF cG (zs tt) (zs_ok tt) p1 (tt 0) (tt 2) (fun _ _ _ h => h.1.1) (fun _ _ _ h => h.2.2.1.1)) gX1_init_X7_init rfl (by decide +kernel) (by decide +kernel) (by decide +kernel) rfl (by decide +kernel) dX1_init_10 (by rw [hkR]; decide) (by rw [hrc, hrs]; decide) [1] [0] rfl rfl rfl rfl (by decide) rfl (Nat.le_of_ble_eq_true rfl) rfl (fun u hu => ?_)
  refine gw_ws (ws2 := [(c0, .inr (1, [.null, .null])), (p1, .inr (5, [iN (8), iN (3), .ref (u.1), .ref (u.2), .ref (tt 0), .ref (tt 2)])), (u.1, .inl (cI, 8, .inl (fun j => nI ((rs_P (fun _ => 0) 8) j)))), (u.2, .inl (cI, 8, .inl (fun j => nI ((rs_M (fun _ => 0) 8) j))))]) rfl ?_
  refine gw_putF C (ty := (.object "StageCube$Pieces")) (ws2 := [(c0, .inr (1, [.ref (p1), .null])), (p1, .inr (5, [iN (8), iN (3), .ref (u.1), .ref (u.2), .ref (tt 0), .ref (tt 2)])), (u.1, .inl (cI, 8, .inl (fun j => nI ((rs_P (fun _ => 0) 8) j)))), (u.2, .inl (cI, 8, .inl (fun j => nI ((rs_M (fun _ => 0) 8) j))))]) 0 0 tyX1 tyX1_ok nmX1 in_X1_init_X1 hmn2 dX1_init_13 lk_X1_init_12 rfl rfl (by decide) rfl rfl rfl (by decide +kernel) rfl rfl (Nat.le_of_ble_eq_true rfl) rfl ?_
  refine gw_aload_n C 0 dX1_init_16 rfl rfl ?_
  refine gw_new C (ci := 5) (fs := [.int (0), .int (0), .null, .null, .null, .null]) tyX7 tyX7_ok in_X1_init_X7 dX1_init_17 (by decide +kernel) (by decide +kernel) (by decide +kernel) rfl (fun j hj => by rcases (show j = 0 ∨ j = 1 ∨ j = 2 ∨ j = 3 ∨ j = 4 ∨ j = 5 by omega) with h | h | h | h | h | h <;> subst h <;> rfl) (by omega) (by omega) (fun p2 => ?_)
  refine gw_ws (ws2 := [(c0, .inr (1, [.ref (p1), .null])), (p1, .inr (5, [iN (8), iN (3), .ref (u.1), .ref (u.2), .ref (tt 0), .ref (tt 2)])), (u.1, .inl (cI, 8, .inl (fun j => nI ((rs_P (fun _ => 0) 8) j)))), (u.2, .inl (cI, 8, .inl (fun j => nI ((rs_M (fun _ => 0) 8) j)))), (p2, .inr (5, [.int (0), .int (0), .null, .null, .null, .null]))]) rfl ?_
  refine gw_dup C dX1_init_20 rfl ?_
  refine gw_iconst C 0 dX1_init_21 (by decide) ?_
  refine gw_callIV (n := 1) (wr := [(c0, .inr (1, [.ref (p1), .null])), (p1, .inr (5, [iN (8), iN (3), .ref (u.1), .ref (u.2), .ref (tt 0), .ref (tt 2)])), (u.1, .inl (cI, 8, .inl (fun j => nI ((rs_P (fun _ => 0) 8) j)))), (u.2, .inl (cI, 8, .inl (fun j => nI ((rs_M (fun _ => 0) 8) j))))]) C (c_pinitE (kl K) (kD K) cI cB cS cJ cF cG (zs tt) (zs_ok tt) p2 (tt 1) (tt 3) (fun _ _ _ h => h.2.1.1) (fun _ _ _ h => h.2.2.2.1.1)) gX1_init_X7_init rfl (by decide +kernel) (by decide +kernel) (by decide +kernel) rfl (by decide +kernel) dX1_init_22 (by rw [hkR]; decide) (by rw [hrc, hrs]; decide) [4] [0, 1, 2, 3] rfl rfl rfl rfl (by decide) rfl (Nat.le_of_ble_eq_true rfl) rfl (fun v hv => ?_)
  refine gw_ws (ws2 := [(c0, .inr (1, [.ref (p1), .null])), (p1, .inr (5, [iN (8), iN (3), .ref (u.1), .ref (u.2), .ref (tt 0), .ref (tt 2)])), (u.1, .inl (cI, 8, .inl (fun j => nI ((rs_P (fun _ => 0) 8) j)))), (u.2, .inl (cI, 8, .inl (fun j => nI ((rs_M (fun _ => 0) 8) j)))), (p2, .inr (5, [iN (12), iN (2), .ref (v.1), .ref (v.2), .ref (tt 1), .ref (tt 3)])), (v.1, .inl (cI, 12, .inl (fun j => nI ((rs_P (fun _ => 0) 12) j)))), (v.2, .inl (cI, 12, .inl (fun j => nI ((rs_M (fun _ => 0) 12) j))))]) rfl ?_
  refine gw_putF C (ty := (.object "StageCube$Pieces")) (ws2 := [(c0, .inr (1, [.ref (p1), .ref (p2)])), (p1, .inr (5, [iN (8), iN (3), .ref (u.1), .ref (u.2), .ref (tt 0), .ref (tt 2)])), (u.1, .inl (cI, 8, .inl (fun j => nI ((rs_P (fun _ => 0) 8) j)))), (u.2, .inl (cI, 8, .inl (fun j => nI ((rs_M (fun _ => 0) 8) j)))), (p2, .inr (5, [iN (12), iN (2), .ref (v.1), .ref (v.2), .ref (tt 1), .ref (tt 3)])), (v.1, .inl (cI, 12, .inl (fun j => nI ((rs_P (fun _ => 0) 12) j)))), (v.2, .inl (cI, 12, .inl (fun j => nI ((rs_M (fun _ => 0) 12) j))))]) 0 1 tyX1 tyX1_ok nmX1 in_X1_init_X1 hmn2 dX1_init_25 lk_X1_init_18 rfl rfl (by decide) rfl rfl rfl (by decide +kernel) rfl rfl (Nat.le_of_ble_eq_true rfl) rfl ?_
  exact ret (fun j => if j = 0 then c0 else if j = 1 then p1 else if j = 2 then u.1 else if j = 3 then u.2 else if j = 4 then p2 else if j = 5 then v.1 else v.2) dX1_init_28 rfl rfl (by decide) (by decide)
set_option maxHeartbeats 4000000 in
set_option maxRecDepth 100000 in
theorem c_sinit1 (l : Launch) (D : va_G) (cI cB cS cJ cF cG : ClassId) (tt : Nat → Nat) (sa fa fwq rch ql : Nat) (fr : Nat → Option Nat) : gw_CV (S := Nat × Nat) l yX9_init wsX9_init 1 21 2 31 D (mo_ty cI cB cS cJ cF cG) (zs tt) ([(sa, .inr (7, [.null, .int 0, .int 0, .int 0, .null, .null, .null])), (fa, .inl (cF, 1, .inr (.inr (.inr (.inr (fr))))))]) [.ref sa, iN fwq, iN rch, iN ql, .ref fa] (fun _ => True) (fun u => [(sa, .inr (7, [.ref u.1, iN fwq, iN rch, iN ql, .ref fa, .ref u.2, .null])), (u.1, .inl (cI, 15, .inl (fun _ => nI 0))), (fa, .inl (cF, 1, .inr (.inr (.inr (.inr (fr)))))), (u.2, .inl (cI, 16, .inl (fun _ => nI 0)))]) := by
  refine gw_CV.of (cc := cX9_init) (maxL := 5) (zs_ok tt) (by decide) rfl (Nat.le_of_ble_eq_true rfl) ?_
  intro K C hkl hkn hkR hkD hmn ret
  have C : gw_x K cX9_init RX9 wsX9_init (mo_ty cI cB cS cJ cF cG) (zs tt) := C
  subst hkl hkD
  have hmn2 : (kM K).name = "<init>" := hmn
  have hrc : (kR K).cells = 2 := by rw [hkR]
  have hrs : (kR K).slots = 31 := by rw [hkR]
  refine gw_aload_n C 0 dX9_init_0 rfl rfl ?_
  refine gw_objInit C dX9_init_1 (by decide +kernel) (by decide +kernel) (by decide +kernel) (by rw [hkR]; decide) (by rw [hkR]; decide) ?_
  refine gw_aload_n C 0 dX9_init_4 rfl rfl ?_
  refine gw_iload_n C 1 dX9_init_5 rfl rfl ?_
  refine gw_putF C (ty := .int) (ws2 := [(sa, .inr (7, [.null, iN (fwq), .int (0), .int (0), .null, .null, .null])), (fa, .inl (cF, 1, .inr (.inr (.inr (.inr (fr))))))]) 0 1 tyX9 tyX9_ok nmX9 in_X9_init_X9 hmn2 dX9_init_6 lk_X9_init_9 rfl rfl (by decide) rfl rfl rfl (by decide +kernel) rfl rfl (Nat.le_of_ble_eq_true rfl) rfl ?_
  refine gw_aload_n C 0 dX9_init_9 rfl rfl ?_
  refine gw_iload_n C 2 dX9_init_10 rfl rfl ?_
  refine gw_putF C (ty := .int) (ws2 := [(sa, .inr (7, [.null, iN (fwq), iN (rch), .int (0), .null, .null, .null])), (fa, .inl (cF, 1, .inr (.inr (.inr (.inr (fr))))))]) 0 2 tyX9 tyX9_ok nmX9 in_X9_init_X9 hmn2 dX9_init_11 lk_X9_init_15 rfl rfl (by decide) rfl rfl rfl (by decide +kernel) rfl rfl (Nat.le_of_ble_eq_true rfl) rfl ?_
  refine gw_aload_n C 0 dX9_init_14 rfl rfl ?_
  refine gw_iload_n C 3 dX9_init_15 rfl rfl ?_
  refine gw_putF C (ty := .int) (ws2 := [(sa, .inr (7, [.null, iN (fwq), iN (rch), iN (ql), .null, .null, .null])), (fa, .inl (cF, 1, .inr (.inr (.inr (.inr (fr))))))]) 0 3 tyX9 tyX9_ok nmX9 in_X9_init_X9 hmn2 dX9_init_16 lk_X9_init_18 rfl rfl (by decide) rfl rfl rfl (by decide +kernel) rfl rfl (Nat.le_of_ble_eq_true rfl) rfl ?_
  refine gw_aload_n C 0 dX9_init_19 rfl rfl ?_
  refine gw_aload C 4 dX9_init_20 rfl ?_
  refine gw_putF C (ty := (.array (.object "StageCube$Feature"))) (ws2 := [(sa, .inr (7, [.null, iN (fwq), iN (rch), iN (ql), .ref (fa), .null, .null])), (fa, .inl (cF, 1, .inr (.inr (.inr (.inr (fr))))))]) 0 4 tyX9 tyX9_ok nmX9 in_X9_init_X9 hmn2 dX9_init_22 lk_X9_init_21 rfl rfl (by decide) rfl rfl rfl (by decide +kernel) rfl rfl (Nat.le_of_ble_eq_true rfl) rfl ?_
  refine gw_aload_n C 0 dX9_init_25 rfl rfl ?_
  refine gw_bipush C 16 dX9_init_26 (by decide) ?_
  refine gw_aload C 4 dX9_init_28 rfl ?_
  refine gw_alen C 1 4 1 dX9_init_30 rfl rfl rfl ?_
  refine gw_imul C dX9_init_31 ?_
  refine gw_newa C 0 dX9_init_32 rfl (by decide +kernel) rfl (fun _ _ h => h) (a0 := (16, .inl (fun _ => 0))) (fun _ => rfl) (by decide) (by decide) (by omega) (by omega) (fun na => ?_)
  refine gw_ws (ws2 := [(sa, .inr (7, [.null, iN (fwq), iN (rch), iN (ql), .ref (fa), .null, .null])), (fa, .inl (cF, 1, .inr (.inr (.inr (.inr (fr)))))), (na, .inl (cI, 16, .inl (fun j => nI (((fun _ => 0)) j))))]) rfl ?_
  refine gw_putF C (ty := (.array .int)) (ws2 := [(sa, .inr (7, [.null, iN (fwq), iN (rch), iN (ql), .ref (fa), .ref (na), .null])), (fa, .inl (cF, 1, .inr (.inr (.inr (.inr (fr)))))), (na, .inl (cI, 16, .inl (fun j => nI (((fun _ => 0)) j))))]) 0 5 tyX9 tyX9_ok nmX9 in_X9_init_X9 hmn2 dX9_init_34 lk_X9_init_25 rfl rfl (by decide) rfl rfl rfl (by decide +kernel) rfl rfl (Nat.le_of_ble_eq_true rfl) rfl ?_
  refine gw_aload_n C 0 dX9_init_37 rfl rfl ?_
  refine gw_bipush C 15 dX9_init_38 (by decide) ?_
  refine gw_newa C 0 dX9_init_40 rfl (by decide +kernel) rfl (fun _ _ h => h) (a0 := (15, .inl (fun _ => 0))) (fun _ => rfl) (by decide) (by decide) (by omega) (by omega) (fun wa => ?_)
  refine gw_ws (ws2 := [(sa, .inr (7, [.null, iN (fwq), iN (rch), iN (ql), .ref (fa), .ref (na), .null])), (fa, .inl (cF, 1, .inr (.inr (.inr (.inr (fr)))))), (na, .inl (cI, 16, .inl (fun j => nI (((fun _ => 0)) j)))), (wa, .inl (cI, 15, .inl (fun j => nI (((fun _ => 0)) j))))]) rfl ?_
  refine gw_putF C (ty := (.array .int)) (ws2 := [(sa, .inr (7, [.ref (wa), iN (fwq), iN (rch), iN (ql), .ref (fa), .ref (na), .null])), (fa, .inl (cF, 1, .inr (.inr (.inr (.inr (fr)))))), (na, .inl (cI, 16, .inl (fun j => nI (((fun _ => 0)) j)))), (wa, .inl (cI, 15, .inl (fun j => nI (((fun _ => 0)) j))))]) 0 0 tyX9 tyX9_ok nmX9 in_X9_init_X9 hmn2 dX9_init_42 lk_X9_init_29 rfl rfl (by decide) rfl rfl rfl (by decide +kernel) rfl rfl (Nat.le_of_ble_eq_true rfl) rfl ?_
  refine gw_perm (ws2 := [(sa, .inr (7, [.ref wa, iN fwq, iN rch, iN ql, .ref fa, .ref na, .null])), (wa, .inl (cI, 15, .inl (fun _ => nI 0))), (fa, .inl (cF, 1, .inr (.inr (.inr (.inr (fr)))))), (na, .inl (cI, 16, .inl (fun _ => nI 0)))]) [0, 3, 1, 2] rfl (by decide) trivial ?_
  exact ret (wa, na) dX9_init_45 trivial rfl (by decide) (by decide)
set_option maxHeartbeats 4000000 in
set_option maxRecDepth 100000 in
theorem c_sinit2 (l : Launch) (D : va_G) (cI cB cS cJ cF cG : ClassId) (tt : Nat → Nat) (sa fa fwq rch ql : Nat) (fr : Nat → Option Nat) : gw_CV (S := Nat × Nat) l yX9_init wsX9_init 1 21 2 47 D (mo_ty cI cB cS cJ cF cG) (zs tt) ([(sa, .inr (7, [.null, .int 0, .int 0, .int 0, .null, .null, .null])), (fa, .inl (cF, 2, .inr (.inr (.inr (.inr (fr))))))]) [.ref sa, iN fwq, iN rch, iN ql, .ref fa] (fun _ => True) (fun u => [(sa, .inr (7, [.ref u.1, iN fwq, iN rch, iN ql, .ref fa, .ref u.2, .null])), (u.1, .inl (cI, 15, .inl (fun _ => nI 0))), (fa, .inl (cF, 2, .inr (.inr (.inr (.inr (fr)))))), (u.2, .inl (cI, 32, .inl (fun _ => nI 0)))]) := by
  refine gw_CV.of (cc := cX9_init) (maxL := 5) (zs_ok tt) (by decide) rfl (Nat.le_of_ble_eq_true rfl) ?_
  intro K C hkl hkn hkR hkD hmn ret
  have C : gw_x K cX9_init RX9 wsX9_init (mo_ty cI cB cS cJ cF cG) (zs tt) := C
  subst hkl hkD
  have hmn2 : (kM K).name = "<init>" := hmn
  have hrc : (kR K).cells = 2 := by rw [hkR]
  have hrs : (kR K).slots = 47 := by rw [hkR]
  refine gw_aload_n C 0 dX9_init_0 rfl rfl ?_
  refine gw_objInit C dX9_init_1 (by decide +kernel) (by decide +kernel) (by decide +kernel) (by rw [hkR]; decide) (by rw [hkR]; decide) ?_
  refine gw_aload_n C 0 dX9_init_4 rfl rfl ?_
  refine gw_iload_n C 1 dX9_init_5 rfl rfl ?_
  refine gw_putF C (ty := .int) (ws2 := [(sa, .inr (7, [.null, iN (fwq), .int (0), .int (0), .null, .null, .null])), (fa, .inl (cF, 2, .inr (.inr (.inr (.inr (fr))))))]) 0 1 tyX9 tyX9_ok nmX9 in_X9_init_X9 hmn2 dX9_init_6 lk_X9_init_9 rfl rfl (by decide) rfl rfl rfl (by decide +kernel) rfl rfl (Nat.le_of_ble_eq_true rfl) rfl ?_
  refine gw_aload_n C 0 dX9_init_9 rfl rfl ?_
  refine gw_iload_n C 2 dX9_init_10 rfl rfl ?_
  refine gw_putF C (ty := .int) (ws2 := [(sa, .inr (7, [.null, iN (fwq), iN (rch), .int (0), .null, .null, .null])), (fa, .inl (cF, 2, .inr (.inr (.inr (.inr (fr))))))]) 0 2 tyX9 tyX9_ok nmX9 in_X9_init_X9 hmn2 dX9_init_11 lk_X9_init_15 rfl rfl (by decide) rfl rfl rfl (by decide +kernel) rfl rfl (Nat.le_of_ble_eq_true rfl) rfl ?_
  refine gw_aload_n C 0 dX9_init_14 rfl rfl ?_
  refine gw_iload_n C 3 dX9_init_15 rfl rfl ?_
  refine gw_putF C (ty := .int) (ws2 := [(sa, .inr (7, [.null, iN (fwq), iN (rch), iN (ql), .null, .null, .null])), (fa, .inl (cF, 2, .inr (.inr (.inr (.inr (fr))))))]) 0 3 tyX9 tyX9_ok nmX9 in_X9_init_X9 hmn2 dX9_init_16 lk_X9_init_18 rfl rfl (by decide) rfl rfl rfl (by decide +kernel) rfl rfl (Nat.le_of_ble_eq_true rfl) rfl ?_
  refine gw_aload_n C 0 dX9_init_19 rfl rfl ?_
  refine gw_aload C 4 dX9_init_20 rfl ?_
  refine gw_putF C (ty := (.array (.object "StageCube$Feature"))) (ws2 := [(sa, .inr (7, [.null, iN (fwq), iN (rch), iN (ql), .ref (fa), .null, .null])), (fa, .inl (cF, 2, .inr (.inr (.inr (.inr (fr))))))]) 0 4 tyX9 tyX9_ok nmX9 in_X9_init_X9 hmn2 dX9_init_22 lk_X9_init_21 rfl rfl (by decide) rfl rfl rfl (by decide +kernel) rfl rfl (Nat.le_of_ble_eq_true rfl) rfl ?_
  refine gw_aload_n C 0 dX9_init_25 rfl rfl ?_
  refine gw_bipush C 16 dX9_init_26 (by decide) ?_
  refine gw_aload C 4 dX9_init_28 rfl ?_
  refine gw_alen C 1 4 2 dX9_init_30 rfl rfl rfl ?_
  refine gw_imul C dX9_init_31 ?_
  refine gw_newa C 0 dX9_init_32 rfl (by decide +kernel) rfl (fun _ _ h => h) (a0 := (32, .inl (fun _ => 0))) (fun _ => rfl) (by decide) (by decide) (by omega) (by omega) (fun na => ?_)
  refine gw_ws (ws2 := [(sa, .inr (7, [.null, iN (fwq), iN (rch), iN (ql), .ref (fa), .null, .null])), (fa, .inl (cF, 2, .inr (.inr (.inr (.inr (fr)))))), (na, .inl (cI, 32, .inl (fun j => nI (((fun _ => 0)) j))))]) rfl ?_
  refine gw_putF C (ty := (.array .int)) (ws2 := [(sa, .inr (7, [.null, iN (fwq), iN (rch), iN (ql), .ref (fa), .ref (na), .null])), (fa, .inl (cF, 2, .inr (.inr (.inr (.inr (fr)))))), (na, .inl (cI, 32, .inl (fun j => nI (((fun _ => 0)) j))))]) 0 5 tyX9 tyX9_ok nmX9 in_X9_init_X9 hmn2 dX9_init_34 lk_X9_init_25 rfl rfl (by decide) rfl rfl rfl (by decide +kernel) rfl rfl (Nat.le_of_ble_eq_true rfl) rfl ?_
  refine gw_aload_n C 0 dX9_init_37 rfl rfl ?_
  refine gw_bipush C 15 dX9_init_38 (by decide) ?_
  refine gw_newa C 0 dX9_init_40 rfl (by decide +kernel) rfl (fun _ _ h => h) (a0 := (15, .inl (fun _ => 0))) (fun _ => rfl) (by decide) (by decide) (by omega) (by omega) (fun wa => ?_)
  refine gw_ws (ws2 := [(sa, .inr (7, [.null, iN (fwq), iN (rch), iN (ql), .ref (fa), .ref (na), .null])), (fa, .inl (cF, 2, .inr (.inr (.inr (.inr (fr)))))), (na, .inl (cI, 32, .inl (fun j => nI (((fun _ => 0)) j)))), (wa, .inl (cI, 15, .inl (fun j => nI (((fun _ => 0)) j))))]) rfl ?_
  refine gw_putF C (ty := (.array .int)) (ws2 := [(sa, .inr (7, [.ref (wa), iN (fwq), iN (rch), iN (ql), .ref (fa), .ref (na), .null])), (fa, .inl (cF, 2, .inr (.inr (.inr (.inr (fr)))))), (na, .inl (cI, 32, .inl (fun j => nI (((fun _ => 0)) j)))), (wa, .inl (cI, 15, .inl (fun j => nI (((fun _ => 0)) j))))]) 0 0 tyX9 tyX9_ok nmX9 in_X9_init_X9 hmn2 dX9_init_42 lk_X9_init_29 rfl rfl (by decide) rfl rfl rfl (by decide +kernel) rfl rfl (Nat.le_of_ble_eq_true rfl) rfl ?_
  refine gw_perm (ws2 := [(sa, .inr (7, [.ref wa, iN fwq, iN rch, iN ql, .ref fa, .ref na, .null])), (wa, .inl (cI, 15, .inl (fun _ => nI 0))), (fa, .inl (cF, 2, .inr (.inr (.inr (.inr (fr)))))), (na, .inl (cI, 32, .inl (fun _ => nI 0)))]) [0, 3, 1, 2] rfl (by decide) trivial ?_
  exact ret (wa, na) dX9_init_45 trivial rfl (by decide) (by decide)
set_option maxHeartbeats 4000000 in
set_option maxRecDepth 100000 in
theorem c_sinit4 (l : Launch) (D : va_G) (cI cB cS cJ cF cG : ClassId) (tt : Nat → Nat) (sa fa fwq rch ql : Nat) (fr : Nat → Option Nat) : gw_CV (S := Nat × Nat) l yX9_init wsX9_init 1 21 2 79 D (mo_ty cI cB cS cJ cF cG) (zs tt) ([(sa, .inr (7, [.null, .int 0, .int 0, .int 0, .null, .null, .null])), (fa, .inl (cF, 4, .inr (.inr (.inr (.inr (fr))))))]) [.ref sa, iN fwq, iN rch, iN ql, .ref fa] (fun _ => True) (fun u => [(sa, .inr (7, [.ref u.1, iN fwq, iN rch, iN ql, .ref fa, .ref u.2, .null])), (u.1, .inl (cI, 15, .inl (fun _ => nI 0))), (fa, .inl (cF, 4, .inr (.inr (.inr (.inr (fr)))))), (u.2, .inl (cI, 64, .inl (fun _ => nI 0)))]) := by
  refine gw_CV.of (cc := cX9_init) (maxL := 5) (zs_ok tt) (by decide) rfl (Nat.le_of_ble_eq_true rfl) ?_
  intro K C hkl hkn hkR hkD hmn ret
  have C : gw_x K cX9_init RX9 wsX9_init (mo_ty cI cB cS cJ cF cG) (zs tt) := C
  subst hkl hkD
  have hmn2 : (kM K).name = "<init>" := hmn
  have hrc : (kR K).cells = 2 := by rw [hkR]
  have hrs : (kR K).slots = 79 := by rw [hkR]
  refine gw_aload_n C 0 dX9_init_0 rfl rfl ?_
  refine gw_objInit C dX9_init_1 (by decide +kernel) (by decide +kernel) (by decide +kernel) (by rw [hkR]; decide) (by rw [hkR]; decide) ?_
  refine gw_aload_n C 0 dX9_init_4 rfl rfl ?_
  refine gw_iload_n C 1 dX9_init_5 rfl rfl ?_
  refine gw_putF C (ty := .int) (ws2 := [(sa, .inr (7, [.null, iN (fwq), .int (0), .int (0), .null, .null, .null])), (fa, .inl (cF, 4, .inr (.inr (.inr (.inr (fr))))))]) 0 1 tyX9 tyX9_ok nmX9 in_X9_init_X9 hmn2 dX9_init_6 lk_X9_init_9 rfl rfl (by decide) rfl rfl rfl (by decide +kernel) rfl rfl (Nat.le_of_ble_eq_true rfl) rfl ?_
  refine gw_aload_n C 0 dX9_init_9 rfl rfl ?_
  refine gw_iload_n C 2 dX9_init_10 rfl rfl ?_
  refine gw_putF C (ty := .int) (ws2 := [(sa, .inr (7, [.null, iN (fwq), iN (rch), .int (0), .null, .null, .null])), (fa, .inl (cF, 4, .inr (.inr (.inr (.inr (fr))))))]) 0 2 tyX9 tyX9_ok nmX9 in_X9_init_X9 hmn2 dX9_init_11 lk_X9_init_15 rfl rfl (by decide) rfl rfl rfl (by decide +kernel) rfl rfl (Nat.le_of_ble_eq_true rfl) rfl ?_
  refine gw_aload_n C 0 dX9_init_14 rfl rfl ?_
  refine gw_iload_n C 3 dX9_init_15 rfl rfl ?_
  refine gw_putF C (ty := .int) (ws2 := [(sa, .inr (7, [.null, iN (fwq), iN (rch), iN (ql), .null, .null, .null])), (fa, .inl (cF, 4, .inr (.inr (.inr (.inr (fr))))))]) 0 3 tyX9 tyX9_ok nmX9 in_X9_init_X9 hmn2 dX9_init_16 lk_X9_init_18 rfl rfl (by decide) rfl rfl rfl (by decide +kernel) rfl rfl (Nat.le_of_ble_eq_true rfl) rfl ?_
  refine gw_aload_n C 0 dX9_init_19 rfl rfl ?_
  refine gw_aload C 4 dX9_init_20 rfl ?_
  refine gw_putF C (ty := (.array (.object "StageCube$Feature"))) (ws2 := [(sa, .inr (7, [.null, iN (fwq), iN (rch), iN (ql), .ref (fa), .null, .null])), (fa, .inl (cF, 4, .inr (.inr (.inr (.inr (fr))))))]) 0 4 tyX9 tyX9_ok nmX9 in_X9_init_X9 hmn2 dX9_init_22 lk_X9_init_21 rfl rfl (by decide) rfl rfl rfl (by decide +kernel) rfl rfl (Nat.le_of_ble_eq_true rfl) rfl ?_
  refine gw_aload_n C 0 dX9_init_25 rfl rfl ?_
  refine gw_bipush C 16 dX9_init_26 (by decide) ?_
  refine gw_aload C 4 dX9_init_28 rfl ?_
  refine gw_alen C 1 4 4 dX9_init_30 rfl rfl rfl ?_
  refine gw_imul C dX9_init_31 ?_
  refine gw_newa C 0 dX9_init_32 rfl (by decide +kernel) rfl (fun _ _ h => h) (a0 := (64, .inl (fun _ => 0))) (fun _ => rfl) (by decide) (by decide) (by omega) (by omega) (fun na => ?_)
  refine gw_ws (ws2 := [(sa, .inr (7, [.null, iN (fwq), iN (rch), iN (ql), .ref (fa), .null, .null])), (fa, .inl (cF, 4, .inr (.inr (.inr (.inr (fr)))))), (na, .inl (cI, 64, .inl (fun j => nI (((fun _ => 0)) j))))]) rfl ?_
  refine gw_putF C (ty := (.array .int)) (ws2 := [(sa, .inr (7, [.null, iN (fwq), iN (rch), iN (ql), .ref (fa), .ref (na), .null])), (fa, .inl (cF, 4, .inr (.inr (.inr (.inr (fr)))))), (na, .inl (cI, 64, .inl (fun j => nI (((fun _ => 0)) j))))]) 0 5 tyX9 tyX9_ok nmX9 in_X9_init_X9 hmn2 dX9_init_34 lk_X9_init_25 rfl rfl (by decide) rfl rfl rfl (by decide +kernel) rfl rfl (Nat.le_of_ble_eq_true rfl) rfl ?_
  refine gw_aload_n C 0 dX9_init_37 rfl rfl ?_
  refine gw_bipush C 15 dX9_init_38 (by decide) ?_
  refine gw_newa C 0 dX9_init_40 rfl (by decide +kernel) rfl (fun _ _ h => h) (a0 := (15, .inl (fun _ => 0))) (fun _ => rfl) (by decide) (by decide) (by omega) (by omega) (fun wa => ?_)
  refine gw_ws (ws2 := [(sa, .inr (7, [.null, iN (fwq), iN (rch), iN (ql), .ref (fa), .ref (na), .null])), (fa, .inl (cF, 4, .inr (.inr (.inr (.inr (fr)))))), (na, .inl (cI, 64, .inl (fun j => nI (((fun _ => 0)) j)))), (wa, .inl (cI, 15, .inl (fun j => nI (((fun _ => 0)) j))))]) rfl ?_
  refine gw_putF C (ty := (.array .int)) (ws2 := [(sa, .inr (7, [.ref (wa), iN (fwq), iN (rch), iN (ql), .ref (fa), .ref (na), .null])), (fa, .inl (cF, 4, .inr (.inr (.inr (.inr (fr)))))), (na, .inl (cI, 64, .inl (fun j => nI (((fun _ => 0)) j)))), (wa, .inl (cI, 15, .inl (fun j => nI (((fun _ => 0)) j))))]) 0 0 tyX9 tyX9_ok nmX9 in_X9_init_X9 hmn2 dX9_init_42 lk_X9_init_29 rfl rfl (by decide) rfl rfl rfl (by decide +kernel) rfl rfl (Nat.le_of_ble_eq_true rfl) rfl ?_
  refine gw_perm (ws2 := [(sa, .inr (7, [.ref wa, iN fwq, iN rch, iN ql, .ref fa, .ref na, .null])), (wa, .inl (cI, 15, .inl (fun _ => nI 0))), (fa, .inl (cF, 4, .inr (.inr (.inr (.inr (fr)))))), (na, .inl (cI, 64, .inl (fun _ => nI 0)))]) [0, 3, 1, 2] rfl (by decide) trivial ?_
  exact ret (wa, na) dX9_init_45 trivial rfl (by decide) (by decide)
