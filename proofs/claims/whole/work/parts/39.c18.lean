theorem in_X10_at_X1 : ∀ w ∈ wsX10, w ∈ wsX10_at := fun _ h => List.mem_cons_of_mem _ (List.mem_append_left _ (List.mem_append_right _ (h)))
theorem in_X10_at_X10 : ∀ w ∈ wsX100, w ∈ wsX10_at := fun _ h => List.mem_cons_of_mem _ (List.mem_append_left _ (List.mem_append_left _ (List.mem_append_right _ (h))))
theorem in_X10_corner_X1 : ∀ w ∈ wsX10, w ∈ wsX10_corner := fun _ h => List.mem_cons_of_mem _ (List.mem_append_left _ (List.mem_append_right _ (h)))
theorem in_X10_corner_X10 : ∀ w ∈ wsX100, w ∈ wsX10_corner := fun _ h => List.mem_cons_of_mem _ (List.mem_append_left _ (List.mem_append_left _ (List.mem_append_right _ (h))))
theorem in_X10_edge_X1 : ∀ w ∈ wsX10, w ∈ wsX10_edge := fun _ h => List.mem_cons_of_mem _ (List.mem_append_left _ (List.mem_append_right _ (h)))
theorem in_X10_edge_X10 : ∀ w ∈ wsX100, w ∈ wsX10_edge := fun _ h => List.mem_cons_of_mem _ (List.mem_append_left _ (List.mem_append_left _ (List.mem_append_right _ (h))))
theorem in_X10_forgetWay_X10 : ∀ w ∈ wsX100, w ∈ wsX10_forgetWay := fun _ h => List.mem_cons_of_mem _ (List.mem_append_right _ (h))
theorem in_X10_home_X10 : ∀ w ∈ wsX100, w ∈ wsX10_home := fun _ h => List.mem_cons_of_mem _ (List.mem_append_left _ (List.mem_append_left _ (List.mem_append_right _ (h))))
theorem in_X10_init_X1 : ∀ w ∈ wsX10, w ∈ wsX10_init := fun _ h => List.mem_cons_of_mem _ (List.mem_append_left _ (List.mem_append_left _ (List.mem_append_right _ (h))))
theorem in_X10_init_X10 : ∀ w ∈ wsX100, w ∈ wsX10_init := fun _ h => List.mem_cons_of_mem _ (List.mem_append_left _ (List.mem_append_right _ (h)))
theorem in_X10_isHome_X1 : ∀ w ∈ wsX10, w ∈ wsX10_isHome := fun _ h => List.mem_cons_of_mem _ (List.mem_append_left _ (List.mem_append_right _ (h)))
theorem in_X10_isHome_X10 : ∀ w ∈ wsX100, w ∈ wsX10_isHome := fun _ h => List.mem_cons_of_mem _ (List.mem_append_left _ (List.mem_append_left _ (List.mem_append_right _ (h))))
theorem in_X10_lawful_X1 : ∀ w ∈ wsX10, w ∈ wsX10_lawful := fun _ h => List.mem_cons_of_mem _ (List.mem_append_left _ (List.mem_append_right _ (h)))
theorem in_X10_lawful_X10 : ∀ w ∈ wsX100, w ∈ wsX10_lawful := fun _ h => List.mem_cons_of_mem _ (List.mem_append_left _ (List.mem_append_left _ (List.mem_append_right _ (h))))
theorem in_X10_stage_X10 : ∀ w ∈ wsX100, w ∈ wsX10_stage := fun _ h => List.mem_cons_of_mem _ (List.mem_append_right _ (h))
theorem in_X10_step_X10 : ∀ w ∈ wsX100, w ∈ wsX10_step := fun _ h => List.mem_cons_of_mem _ (List.mem_append_right _ (h))
theorem in_X10_turn_X10 : ∀ w ∈ wsX100, w ∈ wsX10_turn := fun _ h => List.mem_cons_of_mem _ (List.mem_append_left _ (List.mem_append_left _ (List.mem_append_right _ (h))))
theorem lk_X10_at_10 : Cond.fieldLink RX10 10 "StageCube" "cube" "LStageCube$Cube;" ∈ wsX10_at := by decide +kernel
theorem lk_X10_at_39 : Cond.fieldLink RX10 39 "StageCube$Cube" "corners" "LStageCube$Pieces;" ∈ wsX10_at := by decide +kernel
theorem lk_X10_at_49 : Cond.fieldLink RX10 49 "StageCube$Cube" "edges" "LStageCube$Pieces;" ∈ wsX10_at := by decide +kernel
theorem lk_X10_corner_10 : Cond.fieldLink RX10 10 "StageCube" "cube" "LStageCube$Cube;" ∈ wsX10_corner := by decide +kernel
theorem lk_X10_corner_39 : Cond.fieldLink RX10 39 "StageCube$Cube" "corners" "LStageCube$Pieces;" ∈ wsX10_corner := by decide +kernel
theorem lk_X10_edge_10 : Cond.fieldLink RX10 10 "StageCube" "cube" "LStageCube$Cube;" ∈ wsX10_edge := by decide +kernel
theorem lk_X10_edge_49 : Cond.fieldLink RX10 49 "StageCube$Cube" "edges" "LStageCube$Pieces;" ∈ wsX10_edge := by decide +kernel
theorem lk_X10_forgetWay_25 : Cond.fieldLink RX10 25 "StageCube" "lengths" "[I" ∈ wsX10_forgetWay := by decide +kernel
theorem lk_X10_forgetWay_32 : Cond.fieldLink RX10 32 "StageCube" "stepCount" "I" ∈ wsX10_forgetWay := by decide +kernel
theorem lk_X10_home_10 : Cond.fieldLink RX10 10 "StageCube" "cube" "LStageCube$Cube;" ∈ wsX10_home := by decide +kernel
theorem lk_X10_home_36 : Cond.fieldLink RX10 36 "StageCube" "turnsSinceHome" "I" ∈ wsX10_home := by decide +kernel
theorem lk_X10_init_10 : Cond.fieldLink RX10 10 "StageCube" "cube" "LStageCube$Cube;" ∈ wsX10_init := by decide +kernel
theorem lk_X10_init_16 : Cond.fieldLink RX10 16 "StageCube" "walker" "LStageCube$Cube;" ∈ wsX10_init := by decide +kernel
theorem lk_X10_init_21 : Cond.fieldLink RX10 21 "StageCube" "stages" "[LStageCube$Stage;" ∈ wsX10_init := by decide +kernel
theorem lk_X10_init_25 : Cond.fieldLink RX10 25 "StageCube" "lengths" "[I" ∈ wsX10_init := by decide +kernel
theorem lk_X10_init_29 : Cond.fieldLink RX10 29 "StageCube" "steps" "[I" ∈ wsX10_init := by decide +kernel
theorem lk_X10_init_32 : Cond.fieldLink RX10 32 "StageCube" "stepCount" "I" ∈ wsX10_init := by decide +kernel
theorem lk_X10_init_36 : Cond.fieldLink RX10 36 "StageCube" "turnsSinceHome" "I" ∈ wsX10_init := by decide +kernel
theorem lk_X10_isHome_10 : Cond.fieldLink RX10 10 "StageCube" "cube" "LStageCube$Cube;" ∈ wsX10_isHome := by decide +kernel
theorem lk_X10_isHome_39 : Cond.fieldLink RX10 39 "StageCube$Cube" "corners" "LStageCube$Pieces;" ∈ wsX10_isHome := by decide +kernel
theorem lk_X10_isHome_49 : Cond.fieldLink RX10 49 "StageCube$Cube" "edges" "LStageCube$Pieces;" ∈ wsX10_isHome := by decide +kernel
theorem lk_X10_lawful_10 : Cond.fieldLink RX10 10 "StageCube" "cube" "LStageCube$Cube;" ∈ wsX10_lawful := by decide +kernel
theorem lk_X10_lawful_39 : Cond.fieldLink RX10 39 "StageCube$Cube" "corners" "LStageCube$Pieces;" ∈ wsX10_lawful := by decide +kernel
theorem lk_X10_lawful_49 : Cond.fieldLink RX10 49 "StageCube$Cube" "edges" "LStageCube$Pieces;" ∈ wsX10_lawful := by decide +kernel
theorem lk_X10_stage_25 : Cond.fieldLink RX10 25 "StageCube" "lengths" "[I" ∈ wsX10_stage := by decide +kernel
theorem lk_X10_step_29 : Cond.fieldLink RX10 29 "StageCube" "steps" "[I" ∈ wsX10_step := by decide +kernel
theorem lk_X10_step_32 : Cond.fieldLink RX10 32 "StageCube" "stepCount" "I" ∈ wsX10_step := by decide +kernel
theorem lk_X10_turn_10 : Cond.fieldLink RX10 10 "StageCube" "cube" "LStageCube$Cube;" ∈ wsX10_turn := by decide +kernel
theorem lk_X10_turn_36 : Cond.fieldLink RX10 36 "StageCube" "turnsSinceHome" "I" ∈ wsX10_turn := by decide +kernel
/-- the object's own cells: oa 0 the object, 1 the stages, 2 the lengths, 3 the steps -/
def ob_ws (cI cG : ClassId) (oa : Nat → Nat) (c w : Nat) (sg : Nat → Option Nat) (Ln St : Nat → Nat) (cnt th : Nat) : va_W := [(oa 0, .inr (8, [.ref c, .ref w, .ref (oa 1), .ref (oa 2), .ref (oa 3), iN cnt, iN th])), (oa 1, .inl (cG, 4, .inr (.inr (.inr (.inr sg))))), (oa 2, .inl (cI, 4, .inl (fun j => nI (Ln j)))), (oa 3, .inl (cI, 60, .inl (fun j => nI (St j))))]
set_option maxHeartbeats 4000000 in
set_option maxRecDepth 100000 in
theorem c_Scorner (l : Launch) (D : va_G) (cI cB cS cJ cF cG : ClassId) (tt : Nat → Nat) (oa ca : Nat → Nat) (w : Nat) (sg : Nat → Option Nat) (Ln St : Nat → Nat) (cnt th : Nat) (cp co ep eo : Nat → Nat) (a b c : Nat) (ha : a < 2 ^ 32) (hb : b < 2 ^ 32) (hc : c < 2 ^ 32) : gw_CI (S := Unit) l yX10_corner wsX10_corner 2 44 0 0 D (mo_ty cI cB cS cJ cF cG) (zs tt) (ob_ws cI cG oa (ca 0) (w) (sg) (Ln) (St) (cnt) (th) ++ cb_ws cI tt ca cp co ep eo) [.ref (oa 0), iN a, iN b, iN c] (fun r _ => r = nI (if a < 8 ∧ b < 8 ∧ c < 3 then 1 else 4294967295)) (fun _ => ob_ws cI cG oa (ca 0) (w) (sg) (Ln) (St) (cnt) (th) ++ cb_ws cI tt ca ((cu_put 8 3 a b c (cp, co)).1) ((cu_put 8 3 a b c (cp, co)).2) ep eo) := by
  refine gw_CI.of (cc := cX10_corner) (maxL := 4) (rt := .int) (zs_ok tt) (by decide) rfl (Nat.le_of_ble_eq_true rfl) ?_
  intro K C hkl hkn hkR hkD hmn ret
  have C : gw_x K cX10_corner RX10 wsX10_corner (mo_ty cI cB cS cJ cF cG) (zs tt) := C
  subst hkl hkD
  have hrc : (kR K).cells = 0 := by rw [hkR]
  have hrs : (kR K).slots = 0 := by rw [hkR]
  refine gw_aload_n C 0 dX10_corner_0 rfl rfl ?_
  refine gw_get C 0 0 in_X10_corner_X10 dX10_corner_1 lk_X10_corner_10 rfl rfl (by decide) rfl rfl ?_
  refine gw_get C 4 0 in_X10_corner_X1 dX10_corner_4 lk_X10_corner_39 rfl rfl (by decide) rfl rfl ?_
  refine gw_iload_n C 1 dX10_corner_7 rfl rfl ?_
  refine gw_iload_n C 2 dX10_corner_8 rfl rfl ?_
  refine gw_iload_n C 3 dX10_corner_9 rfl rfl ?_
  refine gw_callVI (n := 3) (wr := [(oa 0, .inr (8, [.ref (ca 0), .ref (w), .ref (oa 1), .ref (oa 2), .ref (oa 3), iN (cnt), iN (th)])), (oa 1, .inl (cG, 4, .inr (.inr (.inr (.inr (sg)))))), (oa 2, .inl (cI, 4, .inl (fun j => nI (Ln j)))), (oa 3, .inl (cI, 60, .inl (fun j => nI (St j)))), (ca 0, .inr (1, [.ref (ca 1), .ref (ca 4)])), (ca 4, .inr (5, [iN (12), iN (2), .ref (ca 5), .ref (ca 6), .ref (tt 1), .ref (tt 3)])), (ca 5, .inl (cI, 12, .inl (fun j => nI (ep j)))), (ca 6, .inl (cI, 12, .inl (fun j => nI (eo j))))]) C (c_pput (kl K) (kD K) cI cB cS cJ cF cG (zs tt) (zs_ok tt) (ca 1) (ca 2) (ca 3) (tt 0) (tt 2) 8 3 cp co a b c (by decide) (by decide) ha hb hc) 0 rfl rfl rfl gX10_corner_X7_put rfl (by decide +kernel) dX10_corner_10 (by rw [hkR]; decide) (by rw [hkR]; decide) [5, 6, 7] [0, 1, 2, 3, 4, 8, 9, 10] rfl rfl rfl rfl (by decide) rfl (Nat.le_of_ble_eq_true rfl) rfl (fun ru u hu => ?_)
  obtain ⟨e1, e2⟩ := hu
  subst e1
  subst e2
  by_cases hx : a < 8 ∧ b < 8 ∧ c < 3
  ·
    rw [if_pos hx]
    refine gw_if_eq C 20 dX10_corner_13 (by decide) (by omega) (fun h121 => ?_) (fun h121 => ?_)
    · first | exact absurd (by decide) h121 | exact absurd h121 (by decide)
    refine gw_iconst C 1 dX10_corner_16 (by decide) ?_
    refine gw_goto C 21 dX10_corner_17 (by decide) ?_
    refine gw_perm (ws2 := (ob_ws cI cG oa (ca 0) (w) (sg) (Ln) (St) (cnt) (th) ++ cb_ws cI tt ca ((cu_put 8 3 a b c (cp, co)).1) ((cu_put 8 3 a b c (cp, co)).2) ep eo)) [0, 1, 2, 3, 4, 8, 9, 10, 5, 6, 7] rfl (by decide) trivial ?_
    exact ret () dX10_corner_21 rfl (by rw [if_pos hx]) rfl (Nat.le_refl 0) (Nat.le_refl 0)
  ·
    rw [if_neg hx]
    refine gw_if_eq C 20 dX10_corner_13 (by decide) (by omega) (fun h122 => ?_) (fun h122 => ?_)
    rotate_left
    · first | exact absurd (by decide) h122 | exact absurd h122 (by decide)
    refine gw_iconst C 4294967295 dX10_corner_20 (by decide) ?_
    refine gw_perm (ws2 := (ob_ws cI cG oa (ca 0) (w) (sg) (Ln) (St) (cnt) (th) ++ cb_ws cI tt ca ((cu_put 8 3 a b c (cp, co)).1) ((cu_put 8 3 a b c (cp, co)).2) ep eo)) [0, 1, 2, 3, 4, 8, 9, 10, 5, 6, 7] rfl (by decide) trivial ?_
    exact ret () dX10_corner_21 rfl (by rw [if_neg hx]) rfl (Nat.le_refl 0) (Nat.le_refl 0)
set_option maxHeartbeats 4000000 in
set_option maxRecDepth 100000 in
theorem c_Sedge (l : Launch) (D : va_G) (cI cB cS cJ cF cG : ClassId) (tt : Nat → Nat) (oa ca : Nat → Nat) (w : Nat) (sg : Nat → Option Nat) (Ln St : Nat → Nat) (cnt th : Nat) (cp co ep eo : Nat → Nat) (a b c : Nat) (ha : a < 2 ^ 32) (hb : b < 2 ^ 32) (hc : c < 2 ^ 32) : gw_CI (S := Unit) l yX10_edge wsX10_edge 2 44 0 0 D (mo_ty cI cB cS cJ cF cG) (zs tt) (ob_ws cI cG oa (ca 0) (w) (sg) (Ln) (St) (cnt) (th) ++ cb_ws cI tt ca cp co ep eo) [.ref (oa 0), iN a, iN b, iN c] (fun r _ => r = nI (if a < 12 ∧ b < 12 ∧ c < 2 then 1 else 4294967295)) (fun _ => ob_ws cI cG oa (ca 0) (w) (sg) (Ln) (St) (cnt) (th) ++ cb_ws cI tt ca cp co ((cu_put 12 2 a b c (ep, eo)).1) ((cu_put 12 2 a b c (ep, eo)).2)) := by
  refine gw_CI.of (cc := cX10_edge) (maxL := 4) (rt := .int) (zs_ok tt) (by decide) rfl (Nat.le_of_ble_eq_true rfl) ?_
  intro K C hkl hkn hkR hkD hmn ret
  have C : gw_x K cX10_edge RX10 wsX10_edge (mo_ty cI cB cS cJ cF cG) (zs tt) := C
  subst hkl hkD
  have hrc : (kR K).cells = 0 := by rw [hkR]
  have hrs : (kR K).slots = 0 := by rw [hkR]
  refine gw_aload_n C 0 dX10_edge_0 rfl rfl ?_
  refine gw_get C 0 0 in_X10_edge_X10 dX10_edge_1 lk_X10_edge_10 rfl rfl (by decide) rfl rfl ?_
  refine gw_get C 4 1 in_X10_edge_X1 dX10_edge_4 lk_X10_edge_49 rfl rfl (by decide) rfl rfl ?_
  refine gw_iload_n C 1 dX10_edge_7 rfl rfl ?_
  refine gw_iload_n C 2 dX10_edge_8 rfl rfl ?_
  refine gw_iload_n C 3 dX10_edge_9 rfl rfl ?_
  refine gw_callVI (n := 3) (wr := [(oa 0, .inr (8, [.ref (ca 0), .ref (w), .ref (oa 1), .ref (oa 2), .ref (oa 3), iN (cnt), iN (th)])), (oa 1, .inl (cG, 4, .inr (.inr (.inr (.inr (sg)))))), (oa 2, .inl (cI, 4, .inl (fun j => nI (Ln j)))), (oa 3, .inl (cI, 60, .inl (fun j => nI (St j)))), (ca 0, .inr (1, [.ref (ca 1), .ref (ca 4)])), (ca 1, .inr (5, [iN (8), iN (3), .ref (ca 2), .ref (ca 3), .ref (tt 0), .ref (tt 2)])), (ca 2, .inl (cI, 8, .inl (fun j => nI (cp j)))), (ca 3, .inl (cI, 8, .inl (fun j => nI (co j))))]) C (c_pput (kl K) (kD K) cI cB cS cJ cF cG (zs tt) (zs_ok tt) (ca 4) (ca 5) (ca 6) (tt 1) (tt 3) 12 2 ep eo a b c (by decide) (by decide) ha hb hc) 0 rfl rfl rfl gX10_edge_X7_put rfl (by decide +kernel) dX10_edge_10 (by rw [hkR]; decide) (by rw [hkR]; decide) [8, 9, 10] [0, 1, 2, 3, 4, 5, 6, 7] rfl rfl rfl rfl (by decide) rfl (Nat.le_of_ble_eq_true rfl) rfl (fun ru u hu => ?_)
  obtain ⟨e1, e2⟩ := hu
  subst e1
  subst e2
  by_cases hx : a < 12 ∧ b < 12 ∧ c < 2
  ·
    rw [if_pos hx]
    refine gw_if_eq C 20 dX10_edge_13 (by decide) (by omega) (fun h123 => ?_) (fun h123 => ?_)
    · first | exact absurd (by decide) h123 | exact absurd h123 (by decide)
    refine gw_iconst C 1 dX10_edge_16 (by decide) ?_
    refine gw_goto C 21 dX10_edge_17 (by decide) ?_
    refine gw_perm (ws2 := (ob_ws cI cG oa (ca 0) (w) (sg) (Ln) (St) (cnt) (th) ++ cb_ws cI tt ca cp co ((cu_put 12 2 a b c (ep, eo)).1) ((cu_put 12 2 a b c (ep, eo)).2))) [0, 1, 2, 3, 4, 5, 6, 7, 8, 9, 10] rfl (by decide) trivial ?_
    exact ret () dX10_edge_21 rfl (by rw [if_pos hx]) rfl (Nat.le_refl 0) (Nat.le_refl 0)
  ·
    rw [if_neg hx]
    refine gw_if_eq C 20 dX10_edge_13 (by decide) (by omega) (fun h124 => ?_) (fun h124 => ?_)
    rotate_left
    · first | exact absurd (by decide) h124 | exact absurd h124 (by decide)
    refine gw_iconst C 4294967295 dX10_edge_20 (by decide) ?_
    refine gw_perm (ws2 := (ob_ws cI cG oa (ca 0) (w) (sg) (Ln) (St) (cnt) (th) ++ cb_ws cI tt ca cp co ((cu_put 12 2 a b c (ep, eo)).1) ((cu_put 12 2 a b c (ep, eo)).2))) [0, 1, 2, 3, 4, 5, 6, 7, 8, 9, 10] rfl (by decide) trivial ?_
    exact ret () dX10_edge_21 rfl (by rw [if_neg hx]) rfl (Nat.le_refl 0) (Nat.le_refl 0)
def Sat_ (cp co ep eo : Nat → Nat) (a b : Nat) : Nat := if a = 0 then (if b < 8 then 3 * cp b + co b else 4294967295) else if a = 1 then (if b < 12 then 2 * ep b + eo b else 4294967295) else 4294967295
set_option maxHeartbeats 4000000 in
set_option maxRecDepth 100000 in
theorem c_Sat (l : Launch) (D : va_G) (cI cB cS cJ cF cG : ClassId) (tt : Nat → Nat) (oa ca : Nat → Nat) (w : Nat) (sg : Nat → Option Nat) (Ln St : Nat → Nat) (cnt th : Nat) (cp co ep eo : Nat → Nat) (a b : Nat) (ha : a < 2 ^ 32) (hb : b < 2 ^ 32) : gw_CI (S := Unit) l yX10_at wsX10_at 2 42 0 0 D (mo_ty cI cB cS cJ cF cG) (zs tt) (ob_ws cI cG oa (ca 0) (w) (sg) (Ln) (St) (cnt) (th) ++ cb_ws cI tt ca cp co ep eo) [.ref (oa 0), iN a, iN b] (fun r _ => r = nI (Sat_ cp co ep eo a b)) (fun _ => ob_ws cI cG oa (ca 0) (w) (sg) (Ln) (St) (cnt) (th) ++ cb_ws cI tt ca cp co ep eo) := by
  refine gw_CI.of (cc := cX10_at) (maxL := 3) (rt := .int) (zs_ok tt) (by decide) rfl (Nat.le_of_ble_eq_true rfl) ?_
  intro K C hkl hkn hkR hkD hmn ret
  have C : gw_x K cX10_at RX10 wsX10_at (mo_ty cI cB cS cJ cF cG) (zs tt) := C
  subst hkl hkD
  have hrc : (kR K).cells = 0 := by rw [hkR]
  have hrs : (kR K).slots = 0 := by rw [hkR]
  refine gw_iload_n C 1 dX10_at_0 rfl rfl ?_
  refine gw_if_ne32 C 16 dX10_at_1 (by decide) (by omega) (fun h125 => ?_) (fun h125 => ?_)
  ·
    refine gw_iload_n C 1 dX10_at_16 rfl rfl ?_
    refine gw_iconst C 1 dX10_at_17 (by decide) ?_
    refine gw_icmp_ne32 C 33 dX10_at_18 (by decide) (by omega) (by omega) (fun h126 => ?_) (fun h126 => ?_)
    ·
      refine gw_iconst C 4294967295 dX10_at_33 (by decide) ?_
      refine gw_perm (ws2 := (ob_ws cI cG oa (ca 0) (w) (sg) (Ln) (St) (cnt) (th) ++ cb_ws cI tt ca cp co ep eo)) [0, 1, 2, 3, 4, 5, 6, 7, 8, 9, 10] rfl (by decide) trivial ?_
      exact ret () dX10_at_34 rfl (by rw [Sat_, if_neg h125, if_neg h126]) rfl (Nat.le_refl 0) (Nat.le_refl 0)
    ·
      refine gw_aload_n C 0 dX10_at_21 rfl rfl ?_
      refine gw_get C 0 0 in_X10_at_X10 dX10_at_22 lk_X10_at_10 rfl rfl (by decide) rfl rfl ?_
      refine gw_get C 4 1 in_X10_at_X1 dX10_at_25 lk_X10_at_49 rfl rfl (by decide) rfl rfl ?_
      refine gw_iload_n C 2 dX10_at_28 rfl rfl ?_
      refine gw_callVI (n := 1) (wr := [(oa 0, .inr (8, [.ref (ca 0), .ref (w), .ref (oa 1), .ref (oa 2), .ref (oa 3), iN (cnt), iN (th)])), (oa 1, .inl (cG, 4, .inr (.inr (.inr (.inr (sg)))))), (oa 2, .inl (cI, 4, .inl (fun j => nI (Ln j)))), (oa 3, .inl (cI, 60, .inl (fun j => nI (St j)))), (ca 0, .inr (1, [.ref (ca 1), .ref (ca 4)])), (ca 1, .inr (5, [iN (8), iN (3), .ref (ca 2), .ref (ca 3), .ref (tt 0), .ref (tt 2)])), (ca 2, .inl (cI, 8, .inl (fun j => nI (cp j)))), (ca 3, .inl (cI, 8, .inl (fun j => nI (co j))))]) C (c_pdesc (kl K) (kD K) cI cB cS cJ cF cG (zs tt) (zs_ok tt) (ca 4) (ca 5) (ca 6) (tt 1) (tt 3) 12 2 ep eo b (by decide) hb) 0 rfl rfl rfl gX10_at_X7_describe rfl (by decide +kernel) dX10_at_29 (by rw [hkR]; decide) (by rw [hkR]; decide) [8, 9, 10] [0, 1, 2, 3, 4, 5, 6, 7] rfl rfl rfl rfl (by decide) rfl (Nat.le_of_ble_eq_true rfl) rfl (fun rv v hv => ?_)
      subst hv
      refine gw_perm (ws2 := (ob_ws cI cG oa (ca 0) (w) (sg) (Ln) (St) (cnt) (th) ++ cb_ws cI tt ca cp co ep eo)) [0, 1, 2, 3, 4, 5, 6, 7, 8, 9, 10] rfl (by decide) trivial ?_
      exact ret () dX10_at_32 rfl (by rw [Sat_, if_neg h125, if_pos h126]) rfl (Nat.le_refl 0) (Nat.le_refl 0)
  ·
    refine gw_aload_n C 0 dX10_at_4 rfl rfl ?_
    refine gw_get C 0 0 in_X10_at_X10 dX10_at_5 lk_X10_at_10 rfl rfl (by decide) rfl rfl ?_
    refine gw_get C 4 0 in_X10_at_X1 dX10_at_8 lk_X10_at_39 rfl rfl (by decide) rfl rfl ?_
    refine gw_iload_n C 2 dX10_at_11 rfl rfl ?_
    refine gw_callVI (n := 1) (wr := [(oa 0, .inr (8, [.ref (ca 0), .ref (w), .ref (oa 1), .ref (oa 2), .ref (oa 3), iN (cnt), iN (th)])), (oa 1, .inl (cG, 4, .inr (.inr (.inr (.inr (sg)))))), (oa 2, .inl (cI, 4, .inl (fun j => nI (Ln j)))), (oa 3, .inl (cI, 60, .inl (fun j => nI (St j)))), (ca 0, .inr (1, [.ref (ca 1), .ref (ca 4)])), (ca 4, .inr (5, [iN (12), iN (2), .ref (ca 5), .ref (ca 6), .ref (tt 1), .ref (tt 3)])), (ca 5, .inl (cI, 12, .inl (fun j => nI (ep j)))), (ca 6, .inl (cI, 12, .inl (fun j => nI (eo j))))]) C (c_pdesc (kl K) (kD K) cI cB cS cJ cF cG (zs tt) (zs_ok tt) (ca 1) (ca 2) (ca 3) (tt 0) (tt 2) 8 3 cp co b (by decide) hb) 0 rfl rfl rfl gX10_at_X7_describe rfl (by decide +kernel) dX10_at_12 (by rw [hkR]; decide) (by rw [hkR]; decide) [5, 6, 7] [0, 1, 2, 3, 4, 8, 9, 10] rfl rfl rfl rfl (by decide) rfl (Nat.le_of_ble_eq_true rfl) rfl (fun rv v hv => ?_)
    subst hv
    refine gw_perm (ws2 := (ob_ws cI cG oa (ca 0) (w) (sg) (Ln) (St) (cnt) (th) ++ cb_ws cI tt ca cp co ep eo)) [0, 1, 2, 3, 4, 8, 9, 10, 5, 6, 7] rfl (by decide) trivial ?_
    exact ret () dX10_at_15 rfl (by rw [Sat_, if_pos h125]) rfl (Nat.le_refl 0) (Nat.le_refl 0)
def Slw_ (cp co ep eo : Nat → Nat) : Nat := if ¬ mo_thr cp 8 = 255 then 4294967294 else if ¬ mo_thr ep 12 = 4095 then 4294967293 else if ¬ mo_sum co 8 % 3 = 0 then 4294967292 else if ¬ mo_sum eo 12 % 2 = 0 then 4294967291 else if od_ cp 8 8 = od_ ep 12 12 then 1 else 4294967290
set_option maxHeartbeats 4000000 in
set_option maxRecDepth 100000 in
theorem c_Slawful (l : Launch) (D : va_G) (cI cB cS cJ cF cG : ClassId) (tt : Nat → Nat) (oa ca : Nat → Nat) (w : Nat) (sg : Nat → Option Nat) (Ln St : Nat → Nat) (cnt th : Nat) (cp co ep eo : Nat → Nat) (hcp : ∀ j, j < 8 → cp j < 8) (hco : ∀ j, j < 8 → co j < 3) (hep : ∀ j, j < 12 → ep j < 12) (heo : ∀ j, j < 12 → eo j < 2) : gw_CI (S := Unit) l yX10_lawful wsX10_lawful 2 44 0 0 D (mo_ty cI cB cS cJ cF cG) (zs tt) (ob_ws cI cG oa (ca 0) (w) (sg) (Ln) (St) (cnt) (th) ++ cb_ws cI tt ca cp co ep eo) [.ref (oa 0)] (fun r _ => r = nI (Slw_ cp co ep eo)) (fun _ => ob_ws cI cG oa (ca 0) (w) (sg) (Ln) (St) (cnt) (th) ++ cb_ws cI tt ca cp co ep eo) := by
  refine gw_CI.of (cc := cX10_lawful) (maxL := 1) (rt := .int) (zs_ok tt) (by decide) rfl (Nat.le_of_ble_eq_true rfl) ?_
  intro K C hkl hkn hkR hkD hmn ret
  have C : gw_x K cX10_lawful RX10 wsX10_lawful (mo_ty cI cB cS cJ cF cG) (zs tt) := C
  subst hkl hkD
  have hrc : (kR K).cells = 0 := by rw [hkR]
  have hrs : (kR K).slots = 0 := by rw [hkR]
  refine gw_aload_n C 0 dX10_lawful_0 rfl rfl ?_
  refine gw_get C 0 0 in_X10_lawful_X10 dX10_lawful_1 lk_X10_lawful_10 rfl rfl (by decide) rfl rfl ?_
  refine gw_get C 4 0 in_X10_lawful_X1 dX10_lawful_4 lk_X10_lawful_39 rfl rfl (by decide) rfl rfl ?_
  refine gw_callVI (n := 0) (wr := [(oa 0, .inr (8, [.ref (ca 0), .ref (w), .ref (oa 1), .ref (oa 2), .ref (oa 3), iN (cnt), iN (th)])), (oa 1, .inl (cG, 4, .inr (.inr (.inr (.inr (sg)))))), (oa 2, .inl (cI, 4, .inl (fun j => nI (Ln j)))), (oa 3, .inl (cI, 60, .inl (fun j => nI (St j)))), (ca 0, .inr (1, [.ref (ca 1), .ref (ca 4)])), (ca 4, .inr (5, [iN (12), iN (2), .ref (ca 5), .ref (ca 6), .ref (tt 1), .ref (tt 3)])), (ca 5, .inl (cI, 12, .inl (fun j => nI (ep j)))), (ca 6, .inl (cI, 12, .inl (fun j => nI (eo j))))]) C (c_pall (kl K) (kD K) cI cB cS cJ cF cG (zs tt) (zs_ok tt) (ca 1) (ca 2) (ca 3) (tt 0) (tt 2) 8 3 cp co (by decide) hcp) 0 rfl rfl rfl gX10_lawful_X7_allThere rfl (by decide +kernel) dX10_lawful_7 (by rw [hkR]; decide) (by rw [hkR]; decide) [5, 6, 7] [0, 1, 2, 3, 4, 8, 9, 10] rfl rfl rfl rfl (by decide) rfl (Nat.le_of_ble_eq_true rfl) rfl (fun rv0 v0 hv0 => ?_)
  subst hv0
  by_cases q0 : mo_thr cp 8 = 2 ^ 8 - 1
  rotate_left
  ·
    rw [if_neg q0]
    refine gw_if_ne C 16 dX10_lawful_10 (by decide) (by omega) (fun h127 => ?_) (fun h127 => ?_)
    · first | exact absurd (by decide) h127 | exact absurd h127 (by decide)
    refine gw_bipush C 4294967294 dX10_lawful_13 (by decide) ?_
    refine gw_perm (ws2 := (ob_ws cI cG oa (ca 0) (w) (sg) (Ln) (St) (cnt) (th) ++ cb_ws cI tt ca cp co ep eo)) [0, 1, 2, 3, 4, 8, 9, 10, 5, 6, 7] rfl (by decide) trivial ?_
    exact ret () dX10_lawful_15 rfl (by rw [Slw_, if_pos q0]) rfl (Nat.le_refl 0) (Nat.le_refl 0)
  rw [if_pos q0]
  refine gw_if_ne C 16 dX10_lawful_10 (by decide) (by omega) (fun h128 => ?_) (fun h128 => ?_)
  rotate_left
  · first | exact absurd (by decide) h128 | exact absurd h128 (by decide)
  refine gw_aload_n C 0 dX10_lawful_16 rfl rfl ?_
  refine gw_get C 0 0 in_X10_lawful_X10 dX10_lawful_17 lk_X10_lawful_10 rfl rfl (by decide) rfl rfl ?_
  refine gw_get C 4 1 in_X10_lawful_X1 dX10_lawful_20 lk_X10_lawful_49 rfl rfl (by decide) rfl rfl ?_
  refine gw_callVI (n := 0) (wr := [(oa 0, .inr (8, [.ref (ca 0), .ref (w), .ref (oa 1), .ref (oa 2), .ref (oa 3), iN (cnt), iN (th)])), (oa 1, .inl (cG, 4, .inr (.inr (.inr (.inr (sg)))))), (oa 2, .inl (cI, 4, .inl (fun j => nI (Ln j)))), (oa 3, .inl (cI, 60, .inl (fun j => nI (St j)))), (ca 0, .inr (1, [.ref (ca 1), .ref (ca 4)])), (ca 1, .inr (5, [iN (8), iN (3), .ref (ca 2), .ref (ca 3), .ref (tt 0), .ref (tt 2)])), (ca 2, .inl (cI, 8, .inl (fun j => nI (cp j)))), (ca 3, .inl (cI, 8, .inl (fun j => nI (co j))))]) C (c_pall (kl K) (kD K) cI cB cS cJ cF cG (zs tt) (zs_ok tt) (ca 4) (ca 5) (ca 6) (tt 1) (tt 3) 12 2 ep eo (by decide) hep) 0 rfl rfl rfl gX10_lawful_X7_allThere rfl (by decide +kernel) dX10_lawful_23 (by rw [hkR]; decide) (by rw [hkR]; decide) [5, 6, 7] [0, 1, 2, 3, 4, 8, 9, 10] rfl rfl rfl rfl (by decide) rfl (Nat.le_of_ble_eq_true rfl) rfl (fun rv1 v1 hv1 => ?_)
  subst hv1
  by_cases q1 : mo_thr ep 12 = 2 ^ 12 - 1
  rotate_left
  ·
    rw [if_neg q1]
    refine gw_if_ne C 32 dX10_lawful_26 (by decide) (by omega) (fun h129 => ?_) (fun h129 => ?_)
    · first | exact absurd (by decide) h129 | exact absurd h129 (by decide)
    refine gw_bipush C 4294967293 dX10_lawful_29 (by decide) ?_
    refine gw_perm (ws2 := (ob_ws cI cG oa (ca 0) (w) (sg) (Ln) (St) (cnt) (th) ++ cb_ws cI tt ca cp co ep eo)) [0, 1, 2, 3, 4, 5, 6, 7, 8, 9, 10] rfl (by decide) trivial ?_
    exact ret () dX10_lawful_31 rfl (by rw [Slw_, if_neg (Classical.not_not.mpr q0), if_pos q1]) rfl (Nat.le_refl 0) (Nat.le_refl 0)
  rw [if_pos q1]
  refine gw_if_ne C 32 dX10_lawful_26 (by decide) (by omega) (fun h130 => ?_) (fun h130 => ?_)
  rotate_left
  · first | exact absurd (by decide) h130 | exact absurd h130 (by decide)
  refine gw_aload_n C 0 dX10_lawful_32 rfl rfl ?_
  refine gw_get C 0 0 in_X10_lawful_X10 dX10_lawful_33 lk_X10_lawful_10 rfl rfl (by decide) rfl rfl ?_
  refine gw_get C 4 0 in_X10_lawful_X1 dX10_lawful_36 lk_X10_lawful_39 rfl rfl (by decide) rfl rfl ?_
  refine gw_callVI (n := 0) (wr := [(oa 0, .inr (8, [.ref (ca 0), .ref (w), .ref (oa 1), .ref (oa 2), .ref (oa 3), iN (cnt), iN (th)])), (oa 1, .inl (cG, 4, .inr (.inr (.inr (.inr (sg)))))), (oa 2, .inl (cI, 4, .inl (fun j => nI (Ln j)))), (oa 3, .inl (cI, 60, .inl (fun j => nI (St j)))), (ca 0, .inr (1, [.ref (ca 1), .ref (ca 4)])), (ca 4, .inr (5, [iN (12), iN (2), .ref (ca 5), .ref (ca 6), .ref (tt 1), .ref (tt 3)])), (ca 5, .inl (cI, 12, .inl (fun j => nI (ep j)))), (ca 6, .inl (cI, 12, .inl (fun j => nI (eo j))))]) C (c_pmarks (kl K) (kD K) cI cB cS cJ cF cG (zs tt) (zs_ok tt) (ca 1) (ca 2) (ca 3) (tt 0) (tt 2) 8 3 cp co (by decide) (by decide) (by decide) hco) 0 rfl rfl rfl gX10_lawful_X7_marksCancel rfl (by decide +kernel) dX10_lawful_39 (by rw [hkR]; decide) (by rw [hkR]; decide) [5, 6, 7] [0, 1, 2, 3, 4, 8, 9, 10] rfl rfl rfl rfl (by decide) rfl (Nat.le_of_ble_eq_true rfl) rfl (fun rv2 v2 hv2 => ?_)
  subst hv2
  by_cases q2 : mo_sum co 8 % 3 = 0
  rotate_left
  ·
    rw [if_neg q2]
    refine gw_if_ne C 48 dX10_lawful_42 (by decide) (by omega) (fun h131 => ?_) (fun h131 => ?_)
    · first | exact absurd (by decide) h131 | exact absurd h131 (by decide)
    refine gw_bipush C 4294967292 dX10_lawful_45 (by decide) ?_
    refine gw_perm (ws2 := (ob_ws cI cG oa (ca 0) (w) (sg) (Ln) (St) (cnt) (th) ++ cb_ws cI tt ca cp co ep eo)) [0, 1, 2, 3, 4, 8, 9, 10, 5, 6, 7] rfl (by decide) trivial ?_
    exact ret () dX10_lawful_47 rfl (by rw [Slw_, if_neg (Classical.not_not.mpr q0), if_neg (Classical.not_not.mpr q1), if_pos q2]) rfl (Nat.le_refl 0) (Nat.le_refl 0)
  rw [if_pos q2]
  refine gw_if_ne C 48 dX10_lawful_42 (by decide) (by omega) (fun h132 => ?_) (fun h132 => ?_)
  rotate_left
  · first | exact absurd (by decide) h132 | exact absurd h132 (by decide)
  refine gw_aload_n C 0 dX10_lawful_48 rfl rfl ?_
  refine gw_get C 0 0 in_X10_lawful_X10 dX10_lawful_49 lk_X10_lawful_10 rfl rfl (by decide) rfl rfl ?_
  refine gw_get C 4 1 in_X10_lawful_X1 dX10_lawful_52 lk_X10_lawful_49 rfl rfl (by decide) rfl rfl ?_
  refine gw_callVI (n := 0) (wr := [(oa 0, .inr (8, [.ref (ca 0), .ref (w), .ref (oa 1), .ref (oa 2), .ref (oa 3), iN (cnt), iN (th)])), (oa 1, .inl (cG, 4, .inr (.inr (.inr (.inr (sg)))))), (oa 2, .inl (cI, 4, .inl (fun j => nI (Ln j)))), (oa 3, .inl (cI, 60, .inl (fun j => nI (St j)))), (ca 0, .inr (1, [.ref (ca 1), .ref (ca 4)])), (ca 1, .inr (5, [iN (8), iN (3), .ref (ca 2), .ref (ca 3), .ref (tt 0), .ref (tt 2)])), (ca 2, .inl (cI, 8, .inl (fun j => nI (cp j)))), (ca 3, .inl (cI, 8, .inl (fun j => nI (co j))))]) C (c_pmarks (kl K) (kD K) cI cB cS cJ cF cG (zs tt) (zs_ok tt) (ca 4) (ca 5) (ca 6) (tt 1) (tt 3) 12 2 ep eo (by decide) (by decide) (by decide) heo) 0 rfl rfl rfl gX10_lawful_X7_marksCancel rfl (by decide +kernel) dX10_lawful_55 (by rw [hkR]; decide) (by rw [hkR]; decide) [5, 6, 7] [0, 1, 2, 3, 4, 8, 9, 10] rfl rfl rfl rfl (by decide) rfl (Nat.le_of_ble_eq_true rfl) rfl (fun rv3 v3 hv3 => ?_)
  subst hv3
  by_cases q3 : mo_sum eo 12 % 2 = 0
  rotate_left
  ·
    rw [if_neg q3]
    refine gw_if_ne C 64 dX10_lawful_58 (by decide) (by omega) (fun h133 => ?_) (fun h133 => ?_)
    · first | exact absurd (by decide) h133 | exact absurd h133 (by decide)
    refine gw_bipush C 4294967291 dX10_lawful_61 (by decide) ?_
    refine gw_perm (ws2 := (ob_ws cI cG oa (ca 0) (w) (sg) (Ln) (St) (cnt) (th) ++ cb_ws cI tt ca cp co ep eo)) [0, 1, 2, 3, 4, 5, 6, 7, 8, 9, 10] rfl (by decide) trivial ?_
    exact ret () dX10_lawful_63 rfl (by rw [Slw_, if_neg (Classical.not_not.mpr q0), if_neg (Classical.not_not.mpr q1), if_neg (Classical.not_not.mpr q2), if_pos q3]) rfl (Nat.le_refl 0) (Nat.le_refl 0)
  rw [if_pos q3]
  refine gw_if_ne C 64 dX10_lawful_58 (by decide) (by omega) (fun h134 => ?_) (fun h134 => ?_)
  rotate_left
  · first | exact absurd (by decide) h134 | exact absurd h134 (by decide)
  refine gw_aload_n C 0 dX10_lawful_64 rfl rfl ?_
  refine gw_get C 0 0 in_X10_lawful_X10 dX10_lawful_65 lk_X10_lawful_10 rfl rfl (by decide) rfl rfl ?_
  refine gw_get C 4 0 in_X10_lawful_X1 dX10_lawful_68 lk_X10_lawful_39 rfl rfl (by decide) rfl rfl ?_
  refine gw_callVI (n := 0) (wr := [(oa 0, .inr (8, [.ref (ca 0), .ref (w), .ref (oa 1), .ref (oa 2), .ref (oa 3), iN (cnt), iN (th)])), (oa 1, .inl (cG, 4, .inr (.inr (.inr (.inr (sg)))))), (oa 2, .inl (cI, 4, .inl (fun j => nI (Ln j)))), (oa 3, .inl (cI, 60, .inl (fun j => nI (St j)))), (ca 0, .inr (1, [.ref (ca 1), .ref (ca 4)])), (ca 4, .inr (5, [iN (12), iN (2), .ref (ca 5), .ref (ca 6), .ref (tt 1), .ref (tt 3)])), (ca 5, .inl (cI, 12, .inl (fun j => nI (ep j)))), (ca 6, .inl (cI, 12, .inl (fun j => nI (eo j))))]) C (c_podd (kl K) (kD K) cI cB cS cJ cF cG (zs tt) (zs_ok tt) (ca 1) (ca 2) (ca 3) (tt 0) (tt 2) 8 3 cp co (by decide) hcp) 0 rfl rfl rfl gX10_lawful_X7_oddlySwapped rfl (by decide +kernel) dX10_lawful_71 (by rw [hkR]; decide) (by rw [hkR]; decide) [5, 6, 7] [0, 1, 2, 3, 4, 8, 9, 10] rfl rfl rfl rfl (by decide) rfl (Nat.le_of_ble_eq_true rfl) rfl (fun rv4 v4 hv4 => ?_)
  subst hv4
  refine gw_aload_n C 0 dX10_lawful_74 rfl rfl ?_
  refine gw_get C 0 0 in_X10_lawful_X10 dX10_lawful_75 lk_X10_lawful_10 rfl rfl (by decide) rfl rfl ?_
  refine gw_get C 4 1 in_X10_lawful_X1 dX10_lawful_78 lk_X10_lawful_49 rfl rfl (by decide) rfl rfl ?_
  refine gw_callVI (n := 0) (wr := [(oa 0, .inr (8, [.ref (ca 0), .ref (w), .ref (oa 1), .ref (oa 2), .ref (oa 3), iN (cnt), iN (th)])), (oa 1, .inl (cG, 4, .inr (.inr (.inr (.inr (sg)))))), (oa 2, .inl (cI, 4, .inl (fun j => nI (Ln j)))), (oa 3, .inl (cI, 60, .inl (fun j => nI (St j)))), (ca 0, .inr (1, [.ref (ca 1), .ref (ca 4)])), (ca 1, .inr (5, [iN (8), iN (3), .ref (ca 2), .ref (ca 3), .ref (tt 0), .ref (tt 2)])), (ca 2, .inl (cI, 8, .inl (fun j => nI (cp j)))), (ca 3, .inl (cI, 8, .inl (fun j => nI (co j))))]) C (c_podd (kl K) (kD K) cI cB cS cJ cF cG (zs tt) (zs_ok tt) (ca 4) (ca 5) (ca 6) (tt 1) (tt 3) 12 2 ep eo (by decide) hep) 0 rfl rfl rfl gX10_lawful_X7_oddlySwapped rfl (by decide +kernel) dX10_lawful_81 (by rw [hkR]; decide) (by rw [hkR]; decide) [5, 6, 7] [0, 1, 2, 3, 4, 8, 9, 10] rfl rfl rfl rfl (by decide) rfl (Nat.le_of_ble_eq_true rfl) rfl (fun rv5 v5 hv5 => ?_)
  subst hv5
  have o1 := od_2 cp 8 8
  have o2 := od_2 ep 12 12
  refine gw_icmp_ne C 91 dX10_lawful_84 (by decide) (by omega) (by omega) (fun h135 => ?_) (fun h135 => ?_)
  ·
    refine gw_bipush C 4294967290 dX10_lawful_91 (by decide) ?_
    refine gw_perm (ws2 := (ob_ws cI cG oa (ca 0) (w) (sg) (Ln) (St) (cnt) (th) ++ cb_ws cI tt ca cp co ep eo)) [0, 1, 2, 3, 4, 5, 6, 7, 8, 9, 10] rfl (by decide) trivial ?_
    exact ret () dX10_lawful_93 rfl (by rw [Slw_, if_neg (Classical.not_not.mpr q0), if_neg (Classical.not_not.mpr q1), if_neg (Classical.not_not.mpr q2), if_neg (Classical.not_not.mpr q3), if_neg h135]) rfl (Nat.le_refl 0) (Nat.le_refl 0)
  ·
    refine gw_iconst C 1 dX10_lawful_87 (by decide) ?_
    refine gw_goto C 93 dX10_lawful_88 (by decide) ?_
    refine gw_perm (ws2 := (ob_ws cI cG oa (ca 0) (w) (sg) (Ln) (St) (cnt) (th) ++ cb_ws cI tt ca cp co ep eo)) [0, 1, 2, 3, 4, 5, 6, 7, 8, 9, 10] rfl (by decide) trivial ?_
    exact ret () dX10_lawful_93 rfl (by rw [Slw_, if_neg (Classical.not_not.mpr q0), if_neg (Classical.not_not.mpr q1), if_neg (Classical.not_not.mpr q2), if_neg (Classical.not_not.mpr q3), if_pos h135]) rfl (Nat.le_refl 0) (Nat.le_refl 0)
set_option maxHeartbeats 4000000 in
set_option maxRecDepth 100000 in
theorem c_SturnB (l : Launch) (D : va_G) (cI cB cS cJ cF cG : ClassId) (tt : Nat → Nat) (oa ca : Nat → Nat) (w : Nat) (sg : Nat → Option Nat) (Ln St : Nat → Nat) (cnt th : Nat) (cp co ep eo : Nat → Nat) (t : Nat) (ht : t < 2 ^ 32) (h18 : ¬ t < 18) : gw_CI (S := Unit) l yX10_turn wsX10_turn 2 50 0 0 D (mo_ty cI cB cS cJ cF cG) (zs tt) (ob_ws cI cG oa (ca 0) (w) (sg) (Ln) (St) (cnt) (th) ++ cb_ws cI tt ca cp co ep eo) [.ref (oa 0), iN t] (fun r _ => r = nI 4294967295) (fun _ => ob_ws cI cG oa (ca 0) (w) (sg) (Ln) (St) (cnt) (th) ++ cb_ws cI tt ca cp co ep eo) := by
  refine gw_CI.of (cc := cX10_turn) (maxL := 2) (rt := .int) (zs_ok tt) (by decide) rfl (Nat.le_of_ble_eq_true rfl) ?_
  intro K C hkl hkn hkR hkD hmn ret
  have C : gw_x K cX10_turn RX10 wsX10_turn (mo_ty cI cB cS cJ cF cG) (zs tt) := C
  subst hkl hkD
  have hrc : (kR K).cells = 0 := by rw [hkR]
  have hrs : (kR K).slots = 0 := by rw [hkR]
  refine gw_iload_n C 1 dX10_turn_0 rfl rfl ?_
  refine gw_if_lt32 C 10 dX10_turn_1 (by decide) (by omega) (fun h136 => ?_) (fun h136 => ?_)
  ·
    refine gw_iconst C 4294967295 dX10_turn_10 (by decide) ?_
    exact ret () dX10_turn_11 rfl rfl rfl (Nat.le_refl 0) (Nat.le_refl 0)
  ·
    refine gw_iload_n C 1 dX10_turn_4 rfl rfl ?_
    refine gw_bipush C 18 dX10_turn_5 (by decide) ?_
    refine gw_icmp_lt C 12 dX10_turn_7 (by decide) (by omega) (by omega) (fun h137 => ?_) (fun h137 => ?_)
    ·
      exact absurd h137 h18
    ·
      refine gw_iconst C 4294967295 dX10_turn_10 (by decide) ?_
      exact ret () dX10_turn_11 rfl rfl rfl (Nat.le_refl 0) (Nat.le_refl 0)
set_option maxHeartbeats 4000000 in
set_option maxRecDepth 100000 in
theorem c_Sturn (l : Launch) (D : va_G) (cI cB cS cJ cF cG : ClassId) (tt : Nat → Nat) (oa ca : Nat → Nat) (w : Nat) (sg : Nat → Option Nat) (Ln St : Nat → Nat) (cnt th : Nat) (cp co ep eo : Nat → Nat) (t : Nat) (ht : t < 18) (hco : ∀ j, j < 8 → co j < 3) (heo : ∀ j, j < 12 → eo j < 2) : gw_CI (S := Unit) l yX10_turn wsX10_turn 2 50 0 0 D (mo_ty cI cB cS cJ cF cG) (zs tt) (ob_ws cI cG oa (ca 0) (w) (sg) (Ln) (St) (cnt) (th) ++ cb_ws cI tt ca cp co ep eo) [.ref (oa 0), iN t] (fun r _ => r = nI 1) (fun _ => ob_ws cI cG oa (ca 0) (w) (sg) (Ln) (St) (cnt) (th + 1) ++ cb_ws cI tt ca (mk_cp (t / 3) cp (t % 3 + 1)) (mk_co (t / 3) co (t % 3 + 1)) (mk_ep (t / 3) ep (t % 3 + 1)) (mk_eo (t / 3) eo (t % 3 + 1))) := by
  refine gw_CI.of (cc := cX10_turn) (maxL := 2) (rt := .int) (zs_ok tt) (by decide) rfl (Nat.le_of_ble_eq_true rfl) ?_
  intro K C hkl hkn hkR hkD hmn ret
  have C : gw_x K cX10_turn RX10 wsX10_turn (mo_ty cI cB cS cJ cF cG) (zs tt) := C
  subst hkl hkD
  have hrc : (kR K).cells = 0 := by rw [hkR]
  have hrs : (kR K).slots = 0 := by rw [hkR]
  refine gw_iload_n C 1 dX10_turn_0 rfl rfl ?_
  refine gw_if_lt C 10 dX10_turn_1 (by decide) (by omega) (fun h138 => ?_) (fun h138 => ?_)
  ·
    exact h138.elim
  ·
    refine gw_iload_n C 1 dX10_turn_4 rfl rfl ?_
    refine gw_bipush C 18 dX10_turn_5 (by decide) ?_
    refine gw_icmp_lt C 12 dX10_turn_7 (by decide) (by omega) (by omega) (fun h139 => ?_) (fun h139 => ?_)
    ·
      refine gw_aload_n C 0 dX10_turn_12 rfl rfl ?_
      refine gw_get C 0 0 in_X10_turn_X10 dX10_turn_13 lk_X10_turn_10 rfl rfl (by decide) rfl rfl ?_
      refine gw_iload_n C 1 dX10_turn_16 rfl rfl ?_
      refine gw_callVV (n := 1) (wr := [(oa 0, .inr (8, [.ref (ca 0), .ref (w), .ref (oa 1), .ref (oa 2), .ref (oa 3), iN (cnt), iN (th)])), (oa 1, .inl (cG, 4, .inr (.inr (.inr (.inr (sg)))))), (oa 2, .inl (cI, 4, .inl (fun j => nI (Ln j)))), (oa 3, .inl (cI, 60, .inl (fun j => nI (St j))))]) C (c_cmake (kl K) (kD K) cI cB cS cJ cF cG tt ca cp co ep eo t ht hco heo) 0 rfl rfl rfl gX10_turn_X1_make rfl (by decide +kernel) dX10_turn_17 (by rw [hkR]; decide) (by rw [hkR]; decide) [4, 5, 6, 7, 8, 9, 10] [0, 1, 2, 3] rfl rfl rfl rfl (by decide) rfl (Nat.le_of_ble_eq_true rfl) rfl (fun u hu => ?_)
      refine gw_aload_n C 0 dX10_turn_20 rfl rfl ?_
      refine gw_dup C dX10_turn_21 rfl ?_
      refine gw_get C 0 6 in_X10_turn_X10 dX10_turn_22 lk_X10_turn_36 rfl rfl (by decide) rfl rfl ?_
      refine gw_iconst C 1 dX10_turn_25 (by decide) ?_
      refine gw_iadd C dX10_turn_26 ?_
      refine gw_put C (ty := .int) (ws2 := [(oa 0, .inr (8, [.ref (ca 0), .ref (w), .ref (oa 1), .ref (oa 2), .ref (oa 3), iN (cnt), iN ((th) + (1))])), (oa 1, .inl (cG, 4, .inr (.inr (.inr (.inr (sg)))))), (oa 2, .inl (cI, 4, .inl (fun j => nI (Ln j)))), (oa 3, .inl (cI, 60, .inl (fun j => nI (St j)))), (ca 0, .inr (1, [.ref (ca 1), .ref (ca 4)])), (ca 1, .inr (5, [iN (8), iN (3), .ref (ca 2), .ref (ca 3), .ref (tt 0), .ref (tt 2)])), (ca 2, .inl (cI, 8, .inl (fun j => nI ((mk_cp (t / 3) cp (t % 3 + 1)) j)))), (ca 3, .inl (cI, 8, .inl (fun j => nI ((mk_co (t / 3) co (t % 3 + 1)) j)))), (ca 4, .inr (5, [iN (12), iN (2), .ref (ca 5), .ref (ca 6), .ref (tt 1), .ref (tt 3)])), (ca 5, .inl (cI, 12, .inl (fun j => nI ((mk_ep (t / 3) ep (t % 3 + 1)) j)))), (ca 6, .inl (cI, 12, .inl (fun j => nI ((mk_eo (t / 3) eo (t % 3 + 1)) j))))]) 0 6 tyX10 tyX10_ok nmX10 in_X10_turn_X10 dX10_turn_27 lk_X10_turn_36 rfl rfl (by decide) rfl rfl (by decide +kernel) rfl rfl (Nat.le_of_ble_eq_true rfl) rfl ?_
      refine gw_iconst C 1 dX10_turn_30 (by decide) ?_
      exact ret () dX10_turn_31 rfl rfl rfl (Nat.le_refl 0) (Nat.le_refl 0)
    ·
      exact absurd h139 (by omega)
set_option maxHeartbeats 4000000 in
set_option maxRecDepth 100000 in
theorem c_Shome (l : Launch) (D : va_G) (cI cB cS cJ cF cG : ClassId) (tt : Nat → Nat) (oa ca : Nat → Nat) (w : Nat) (sg : Nat → Option Nat) (Ln St : Nat → Nat) (cnt th : Nat) (cp co ep eo : Nat → Nat) : gw_CI (S := Unit) l yX10_home wsX10_home 2 42 0 0 D (mo_ty cI cB cS cJ cF cG) (zs tt) (ob_ws cI cG oa (ca 0) (w) (sg) (Ln) (St) (cnt) (th) ++ cb_ws cI tt ca cp co ep eo) [.ref (oa 0)] (fun r _ => r = nI th) (fun _ => ob_ws cI cG oa (ca 0) (w) (sg) (Ln) (St) (cnt) (0) ++ cb_ws cI tt ca (rs_P cp 8) (rs_M co 8) (rs_P ep 12) (rs_M eo 12)) := by
  refine gw_CI.of (cc := cX10_home) (maxL := 2) (rt := .int) (zs_ok tt) (by decide) rfl (Nat.le_of_ble_eq_true rfl) ?_
  intro K C hkl hkn hkR hkD hmn ret
  have C : gw_x K cX10_home RX10 wsX10_home (mo_ty cI cB cS cJ cF cG) (zs tt) := C
  subst hkl hkD
  have hrc : (kR K).cells = 0 := by rw [hkR]
  have hrs : (kR K).slots = 0 := by rw [hkR]
  refine gw_aload_n C 0 dX10_home_0 rfl rfl ?_
  refine gw_get C 0 6 in_X10_home_X10 dX10_home_1 lk_X10_home_36 rfl rfl (by decide) rfl rfl ?_
  refine gw_istore_n C (lv2 := [(1, iN (th)), (0, .ref (oa 0))]) dX10_home_4 rfl (by omega) rfl ?_
  refine gw_aload_n C 1 dX10_home_5 rfl rfl ?_
  refine gw_get C 0 0 in_X10_home_X10 dX10_home_6 lk_X10_home_10 rfl rfl (by decide) rfl rfl ?_
  refine gw_callVV (n := 0) (wr := [(oa 0, .inr (8, [.ref (ca 0), .ref (w), .ref (oa 1), .ref (oa 2), .ref (oa 3), iN (cnt), iN (th)])), (oa 1, .inl (cG, 4, .inr (.inr (.inr (.inr (sg)))))), (oa 2, .inl (cI, 4, .inl (fun j => nI (Ln j)))), (oa 3, .inl (cI, 60, .inl (fun j => nI (St j))))]) C (c_creset (kl K) (kD K) cI cB cS cJ cF cG tt ca cp co ep eo) 0 rfl rfl rfl gX10_home_X1_reset rfl (by decide +kernel) dX10_home_9 (by rw [hkR]; decide) (by rw [hkR]; decide) [4, 5, 6, 7, 8, 9, 10] [0, 1, 2, 3] rfl rfl rfl rfl (by decide) rfl (Nat.le_of_ble_eq_true rfl) rfl (fun u hu => ?_)
  refine gw_aload_n C 1 dX10_home_12 rfl rfl ?_
  refine gw_iconst C 0 dX10_home_13 (by decide) ?_
  refine gw_put C (ty := .int) (ws2 := [(oa 0, .inr (8, [.ref (ca 0), .ref (w), .ref (oa 1), .ref (oa 2), .ref (oa 3), iN (cnt), iN (0)])), (oa 1, .inl (cG, 4, .inr (.inr (.inr (.inr (sg)))))), (oa 2, .inl (cI, 4, .inl (fun j => nI (Ln j)))), (oa 3, .inl (cI, 60, .inl (fun j => nI (St j)))), (ca 0, .inr (1, [.ref (ca 1), .ref (ca 4)])), (ca 1, .inr (5, [iN (8), iN (3), .ref (ca 2), .ref (ca 3), .ref (tt 0), .ref (tt 2)])), (ca 2, .inl (cI, 8, .inl (fun j => nI ((rs_P cp 8) j)))), (ca 3, .inl (cI, 8, .inl (fun j => nI ((rs_M co 8) j)))), (ca 4, .inr (5, [iN (12), iN (2), .ref (ca 5), .ref (ca 6), .ref (tt 1), .ref (tt 3)])), (ca 5, .inl (cI, 12, .inl (fun j => nI ((rs_P ep 12) j)))), (ca 6, .inl (cI, 12, .inl (fun j => nI ((rs_M eo 12) j))))]) 0 6 tyX10 tyX10_ok nmX10 in_X10_home_X10 dX10_home_14 lk_X10_home_36 rfl rfl (by decide) rfl rfl (by decide +kernel) rfl rfl (Nat.le_of_ble_eq_true rfl) rfl ?_
  refine gw_iload_n C 0 dX10_home_17 rfl rfl ?_
  exact ret () dX10_home_18 rfl rfl rfl (Nat.le_refl 0) (Nat.le_refl 0)
theorem ah_2 (P M : Nat → Nat) : ∀ i, ah_ P M i < 2
  | 0 => by rw [ah_]; decide
  | i + 1 => by
    rw [ah_]
    split <;> first | decide | exact ah_2 P M i
set_option maxHeartbeats 4000000 in
set_option maxRecDepth 100000 in
theorem c_SisHome (l : Launch) (D : va_G) (cI cB cS cJ cF cG : ClassId) (tt : Nat → Nat) (oa ca : Nat → Nat) (w : Nat) (sg : Nat → Option Nat) (Ln St : Nat → Nat) (cnt th : Nat) (cp co ep eo : Nat → Nat) (hcp : ∀ j, j < 8 → cp j < 8) (hco : ∀ j, j < 8 → co j < 3) (hep : ∀ j, j < 12 → ep j < 12) (heo : ∀ j, j < 12 → eo j < 2) : gw_CI (S := Unit) l yX10_isHome wsX10_isHome 2 42 0 0 D (mo_ty cI cB cS cJ cF cG) (zs tt) (ob_ws cI cG oa (ca 0) (w) (sg) (Ln) (St) (cnt) (th) ++ cb_ws cI tt ca cp co ep eo) [.ref (oa 0)] (fun r _ => r = nI (if ah_ cp co 8 = 0 then 0 else if ah_ ep eo 12 = 0 then 0 else 1)) (fun _ => ob_ws cI cG oa (ca 0) (w) (sg) (Ln) (St) (cnt) (th) ++ cb_ws cI tt ca cp co ep eo) := by
  refine gw_CI.of (cc := cX10_isHome) (maxL := 1) (rt := .int) (zs_ok tt) (by decide) rfl (Nat.le_of_ble_eq_true rfl) ?_
  intro K C hkl hkn hkR hkD hmn ret
  have C : gw_x K cX10_isHome RX10 wsX10_isHome (mo_ty cI cB cS cJ cF cG) (zs tt) := C
  subst hkl hkD
  have hrc : (kR K).cells = 0 := by rw [hkR]
  have hrs : (kR K).slots = 0 := by rw [hkR]
  refine gw_aload_n C 0 dX10_isHome_0 rfl rfl ?_
  refine gw_get C 0 0 in_X10_isHome_X10 dX10_isHome_1 lk_X10_isHome_10 rfl rfl (by decide) rfl rfl ?_
  refine gw_get C 4 0 in_X10_isHome_X1 dX10_isHome_4 lk_X10_isHome_39 rfl rfl (by decide) rfl rfl ?_
  have o1 := ah_2 cp co 8
  have o2 := ah_2 ep eo 12
  refine gw_callVI (n := 0) (wr := [(oa 0, .inr (8, [.ref (ca 0), .ref (w), .ref (oa 1), .ref (oa 2), .ref (oa 3), iN (cnt), iN (th)])), (oa 1, .inl (cG, 4, .inr (.inr (.inr (.inr (sg)))))), (oa 2, .inl (cI, 4, .inl (fun j => nI (Ln j)))), (oa 3, .inl (cI, 60, .inl (fun j => nI (St j)))), (ca 0, .inr (1, [.ref (ca 1), .ref (ca 4)])), (ca 4, .inr (5, [iN (12), iN (2), .ref (ca 5), .ref (ca 6), .ref (tt 1), .ref (tt 3)])), (ca 5, .inl (cI, 12, .inl (fun j => nI (ep j)))), (ca 6, .inl (cI, 12, .inl (fun j => nI (eo j))))]) C (c_pathome (kl K) (kD K) cI cB cS cJ cF cG (zs tt) (zs_ok tt) (ca 1) (ca 2) (ca 3) (tt 0) (tt 2) 8 3 cp co (by decide) hcp (fun j hj => hco j hj)) 0 rfl rfl rfl gX10_isHome_X7_atHome rfl (by decide +kernel) dX10_isHome_7 (by rw [hkR]; decide) (by rw [hkR]; decide) [5, 6, 7] [0, 1, 2, 3, 4, 8, 9, 10] rfl rfl rfl rfl (by decide) rfl (Nat.le_of_ble_eq_true rfl) rfl (fun rv v hv => ?_)
  subst hv
  refine gw_if_eq C 30 dX10_isHome_10 (by decide) (by omega) (fun h140 => ?_) (fun h140 => ?_)
  ·
    refine gw_iconst C 0 dX10_isHome_30 (by decide) ?_
    refine gw_perm (ws2 := (ob_ws cI cG oa (ca 0) (w) (sg) (Ln) (St) (cnt) (th) ++ cb_ws cI tt ca cp co ep eo)) [0, 1, 2, 3, 4, 8, 9, 10, 5, 6, 7] rfl (by decide) trivial ?_
    exact ret () dX10_isHome_31 rfl (by rw [if_pos h140]) rfl (Nat.le_refl 0) (Nat.le_refl 0)
  ·
    refine gw_aload_n C 0 dX10_isHome_13 rfl rfl ?_
    refine gw_get C 0 0 in_X10_isHome_X10 dX10_isHome_14 lk_X10_isHome_10 rfl rfl (by decide) rfl rfl ?_
    refine gw_get C 4 1 in_X10_isHome_X1 dX10_isHome_17 lk_X10_isHome_49 rfl rfl (by decide) rfl rfl ?_
    refine gw_callVI (n := 0) (wr := [(oa 0, .inr (8, [.ref (ca 0), .ref (w), .ref (oa 1), .ref (oa 2), .ref (oa 3), iN (cnt), iN (th)])), (oa 1, .inl (cG, 4, .inr (.inr (.inr (.inr (sg)))))), (oa 2, .inl (cI, 4, .inl (fun j => nI (Ln j)))), (oa 3, .inl (cI, 60, .inl (fun j => nI (St j)))), (ca 0, .inr (1, [.ref (ca 1), .ref (ca 4)])), (ca 1, .inr (5, [iN (8), iN (3), .ref (ca 2), .ref (ca 3), .ref (tt 0), .ref (tt 2)])), (ca 2, .inl (cI, 8, .inl (fun j => nI (cp j)))), (ca 3, .inl (cI, 8, .inl (fun j => nI (co j))))]) C (c_pathome (kl K) (kD K) cI cB cS cJ cF cG (zs tt) (zs_ok tt) (ca 4) (ca 5) (ca 6) (tt 1) (tt 3) 12 2 ep eo (by decide) hep (fun j hj => Nat.lt_trans (heo j hj) (by decide))) 0 rfl rfl rfl gX10_isHome_X7_atHome rfl (by decide +kernel) dX10_isHome_20 (by rw [hkR]; decide) (by rw [hkR]; decide) [5, 6, 7] [0, 1, 2, 3, 4, 8, 9, 10] rfl rfl rfl rfl (by decide) rfl (Nat.le_of_ble_eq_true rfl) rfl (fun rv2 v2 hv2 => ?_)
    subst hv2
    refine gw_if_eq C 30 dX10_isHome_23 (by decide) (by omega) (fun h141 => ?_) (fun h141 => ?_)
    ·
      refine gw_iconst C 0 dX10_isHome_30 (by decide) ?_
      refine gw_perm (ws2 := (ob_ws cI cG oa (ca 0) (w) (sg) (Ln) (St) (cnt) (th) ++ cb_ws cI tt ca cp co ep eo)) [0, 1, 2, 3, 4, 5, 6, 7, 8, 9, 10] rfl (by decide) trivial ?_
      exact ret () dX10_isHome_31 rfl (by rw [if_neg h140, if_pos h141]) rfl (Nat.le_refl 0) (Nat.le_refl 0)
    ·
      refine gw_iconst C 1 dX10_isHome_26 (by decide) ?_
      refine gw_goto C 31 dX10_isHome_27 (by decide) ?_
      refine gw_perm (ws2 := (ob_ws cI cG oa (ca 0) (w) (sg) (Ln) (St) (cnt) (th) ++ cb_ws cI tt ca cp co ep eo)) [0, 1, 2, 3, 4, 5, 6, 7, 8, 9, 10] rfl (by decide) trivial ?_
      exact ret () dX10_isHome_31 rfl (by rw [if_neg h140, if_neg h141]) rfl (Nat.le_refl 0) (Nat.le_refl 0)
set_option maxHeartbeats 4000000 in
set_option maxRecDepth 100000 in
theorem c_Sstage (l : Launch) (D : va_G) (cI cB cS cJ cF cG : ClassId) (tt : Nat → Nat) (oa ca : Nat → Nat) (w : Nat) (sg : Nat → Option Nat) (Ln St : Nat → Nat) (cnt th : Nat) (s : Nat) (hs : s < 2 ^ 32) : gw_CI (S := Unit) l yX10_stage wsX10_stage 0 0 0 0 D (mo_ty cI cB cS cJ cF cG) (zs tt) (ob_ws cI cG oa (ca 0) (w) (sg) (Ln) (St) (cnt) (th)) [.ref (oa 0), iN s] (fun r _ => r = nI (if 1 ≤ s ∧ s ≤ 4 then Ln (s - 1) else 4294967295)) (fun _ => ob_ws cI cG oa (ca 0) (w) (sg) (Ln) (St) (cnt) (th)) := by
  refine gw_CI.of (cc := cX10_stage) (maxL := 2) (rt := .int) (zs_ok tt) (by decide) rfl (Nat.le_of_ble_eq_true rfl) ?_
  intro K C hkl hkn hkR hkD hmn ret
  have C : gw_x K cX10_stage RX10 wsX10_stage (mo_ty cI cB cS cJ cF cG) (zs tt) := C
  subst hkl hkD
  have hrc : (kR K).cells = 0 := by rw [hkR]
  have hrs : (kR K).slots = 0 := by rw [hkR]
  refine gw_iload_n C 1 dX10_stage_0 rfl rfl ?_
  refine gw_iconst C 1 dX10_stage_1 (by decide) ?_
  refine gw_icmp_lt32 C 21 dX10_stage_2 (by decide) hs (by decide) (fun hb => ?_) (fun hb => ?_)
  ·
    refine gw_iconst C 4294967295 dX10_stage_21 (by decide) ?_
    exact ret () dX10_stage_22 rfl (by rw [if_neg (by omega)]) rfl (Nat.le_refl 0) (Nat.le_refl 0)
  ·
    refine gw_iload_n C 1 dX10_stage_5 rfl rfl ?_
    refine gw_iconst C 4 dX10_stage_6 (by decide) ?_
    refine gw_icmp_gt C 21 dX10_stage_7 (by decide) (by omega) (by omega) (fun h142 => ?_) (fun h142 => ?_)
    ·
      refine gw_iconst C 4294967295 dX10_stage_21 (by decide) ?_
      exact ret () dX10_stage_22 rfl (by rw [if_neg (by omega)]) rfl (Nat.le_refl 0) (Nat.le_refl 0)
    ·
      refine gw_aload_n C 0 dX10_stage_10 rfl rfl ?_
      refine gw_get C 0 3 in_X10_stage_X10 dX10_stage_11 lk_X10_stage_25 rfl rfl (by decide) rfl rfl ?_
      refine gw_iload_n C 1 dX10_stage_14 rfl rfl ?_
      refine gw_iconst C 1 dX10_stage_15 (by decide) ?_
      refine gw_isub C dX10_stage_16 (by omega) ?_
      refine gw_ild C (v := nI (Ln ((s) - (1)))) 2 0 dX10_stage_17 rfl rfl (by first | decide | omega) (by omega) rfl ?_
      refine gw_goto C 22 dX10_stage_18 (by decide) ?_
      exact ret () dX10_stage_22 rfl (by rw [if_pos (by omega)]) rfl (Nat.le_refl 0) (Nat.le_refl 0)
set_option maxHeartbeats 4000000 in
set_option maxRecDepth 100000 in
theorem c_Sstep (l : Launch) (D : va_G) (cI cB cS cJ cF cG : ClassId) (tt : Nat → Nat) (oa ca : Nat → Nat) (w : Nat) (sg : Nat → Option Nat) (Ln St : Nat → Nat) (cnt th : Nat) (s : Nat) (hs : s < 2 ^ 32) (hn : cnt ≤ 60) : gw_CI (S := Unit) l yX10_step wsX10_step 0 0 0 0 D (mo_ty cI cB cS cJ cF cG) (zs tt) (ob_ws cI cG oa (ca 0) (w) (sg) (Ln) (St) (cnt) (th)) [.ref (oa 0), iN s] (fun r _ => r = nI (if s < cnt then St s else 4294967295)) (fun _ => ob_ws cI cG oa (ca 0) (w) (sg) (Ln) (St) (cnt) (th)) := by
  refine gw_CI.of (cc := cX10_step) (maxL := 2) (rt := .int) (zs_ok tt) (by decide) rfl (Nat.le_of_ble_eq_true rfl) ?_
  intro K C hkl hkn hkR hkD hmn ret
  have C : gw_x K cX10_step RX10 wsX10_step (mo_ty cI cB cS cJ cF cG) (zs tt) := C
  subst hkl hkD
  have hrc : (kR K).cells = 0 := by rw [hkR]
  have hrs : (kR K).slots = 0 := by rw [hkR]
  refine gw_iload_n C 1 dX10_step_0 rfl rfl ?_
  refine gw_if_lt32 C 21 dX10_step_1 (by decide) (by omega) (fun h143 => ?_) (fun h143 => ?_)
  ·
    refine gw_iconst C 4294967295 dX10_step_21 (by decide) ?_
    exact ret () dX10_step_22 rfl (by rw [if_neg (by omega)]) rfl (Nat.le_refl 0) (Nat.le_refl 0)
  ·
    refine gw_iload_n C 1 dX10_step_4 rfl rfl ?_
    refine gw_aload_n C 0 dX10_step_5 rfl rfl ?_
    refine gw_get C 0 5 in_X10_step_X10 dX10_step_6 lk_X10_step_32 rfl rfl (by decide) rfl rfl ?_
    refine gw_icmp_ge C 21 dX10_step_9 (by decide) (by omega) (by omega) (fun h144 => ?_) (fun h144 => ?_)
    ·
      refine gw_iconst C 4294967295 dX10_step_21 (by decide) ?_
      exact ret () dX10_step_22 rfl (by rw [if_neg (by omega)]) rfl (Nat.le_refl 0) (Nat.le_refl 0)
    ·
      refine gw_aload_n C 0 dX10_step_12 rfl rfl ?_
      refine gw_get C 0 4 in_X10_step_X10 dX10_step_13 lk_X10_step_29 rfl rfl (by decide) rfl rfl ?_
      refine gw_iload_n C 1 dX10_step_16 rfl rfl ?_
      refine gw_ild C (v := nI (St (s))) 3 0 dX10_step_17 rfl rfl (by first | decide | omega) (by omega) rfl ?_
      refine gw_goto C 22 dX10_step_18 (by decide) ?_
      exact ret () dX10_step_22 rfl (by rw [if_pos (by omega)]) rfl (Nat.le_refl 0) (Nat.le_refl 0)
def fg_ (Ln : Nat → Nat) : Nat → Nat → Nat
  | 0 => Ln
  | i + 1 => up1 (fg_ Ln i) i 0
set_option maxHeartbeats 4000000 in
set_option maxRecDepth 100000 in
theorem c_Sforget (l : Launch) (D : va_G) (cI cB cS cJ cF cG : ClassId) (tt : Nat → Nat) (oa ca : Nat → Nat) (w : Nat) (sg : Nat → Option Nat) (Ln St : Nat → Nat) (cnt th : Nat) : gw_CV (S := Unit) l yX10_forgetWay wsX10_forgetWay 0 0 0 0 D (mo_ty cI cB cS cJ cF cG) (zs tt) (ob_ws cI cG oa (ca 0) (w) (sg) (Ln) (St) (cnt) (th)) [.ref (oa 0)] (fun _ => True) (fun _ => ob_ws cI cG oa (ca 0) (w) (sg) (fg_ Ln 4) (St) (0) (th)) := by
  refine gw_CV.of (cc := cX10_forgetWay) (maxL := 2) (zs_ok tt) (by decide) rfl (Nat.le_of_ble_eq_true rfl) ?_
  intro K C hkl hkn hkR hkD hmn ret
  have C : gw_x K cX10_forgetWay RX10 wsX10_forgetWay (mo_ty cI cB cS cJ cF cG) (zs tt) := C
  subst hkl hkD
  have hrc : (kR K).cells = 0 := by rw [hkR]
  have hrs : (kR K).slots = 0 := by rw [hkR]
  refine gw_aload_n C 0 dX10_forgetWay_0 rfl rfl ?_
  refine gw_iconst C 0 dX10_forgetWay_1 (by decide) ?_
  refine gw_put C (ty := .int) (ws2 := [(oa 0, .inr (8, [.ref (ca 0), .ref (w), .ref (oa 1), .ref (oa 2), .ref (oa 3), iN (0), iN (th)])), (oa 1, .inl (cG, 4, .inr (.inr (.inr (.inr (sg)))))), (oa 2, .inl (cI, 4, .inl (fun j => nI (Ln j)))), (oa 3, .inl (cI, 60, .inl (fun j => nI (St j))))]) 0 5 tyX10 tyX10_ok nmX10 in_X10_forgetWay_X10 dX10_forgetWay_2 lk_X10_forgetWay_32 rfl rfl (by decide) rfl rfl (by decide +kernel) rfl rfl (Nat.le_of_ble_eq_true rfl) rfl ?_
  refine gw_iconst C 0 dX10_forgetWay_5 (by decide) ?_
  refine gw_istore_n C (lv2 := [(1, iN (0)), (0, .ref (oa 0))]) dX10_forgetWay_6 rfl (by omega) rfl ?_
  have lp : ∀ ni i : Nat, i + ni = 4 → gw_G K ([(oa 0, .inr (8, [.ref (ca 0), .ref (w), .ref (oa 1), .ref (oa 2), .ref (oa 3), iN (0), iN (th)])), (oa 1, .inl (cG, 4, .inr (.inr (.inr (.inr (sg)))))), (oa 2, .inl (cI, 4, .inl (fun j => nI ((fg_ Ln i) j)))), (oa 3, .inl (cI, 60, .inl (fun j => nI (St j))))]) 0 0 7 [(1, iN (i)), (0, .ref (oa 0))] [] := by
    intro ni
    induction ni with
    | zero =>
      intro i hii
      refine gw_iload_n C 0 dX10_forgetWay_7 rfl rfl ?_
      refine gw_iconst C 4 dX10_forgetWay_8 (by decide) ?_
      refine gw_icmp_ge C 25 dX10_forgetWay_9 (by decide) (by omega) (by omega) (fun h145 => ?_) (fun h145 => ?_)
      ·
        exact ret () dX10_forgetWay_25 trivial (by rw [show i = 4 by omega]; rfl) (Nat.le_refl 0) (Nat.le_refl 0)
      ·
        exact absurd h145 (by omega)
    | succ ni ihi =>
      intro i hii
      refine gw_iload_n C 0 dX10_forgetWay_7 rfl rfl ?_
      refine gw_iconst C 4 dX10_forgetWay_8 (by decide) ?_
      refine gw_icmp_ge C 25 dX10_forgetWay_9 (by decide) (by omega) (by omega) (fun h146 => ?_) (fun h146 => ?_)
      ·
        exact absurd h146 (by omega)
      ·
        refine gw_aload_n C 1 dX10_forgetWay_12 rfl rfl ?_
        refine gw_get C 0 3 in_X10_forgetWay_X10 dX10_forgetWay_13 lk_X10_forgetWay_25 rfl rfl (by decide) rfl rfl ?_
        refine gw_iload_n C 0 dX10_forgetWay_16 rfl rfl ?_
        refine gw_iconst C 0 dX10_forgetWay_17 (by decide) ?_
        refine gw_istN C (ws2 := [(oa 0, .inr (8, [.ref (ca 0), .ref (w), .ref (oa 1), .ref (oa 2), .ref (oa 3), iN (0), iN (th)])), (oa 1, .inl (cG, 4, .inr (.inr (.inr (.inr (sg)))))), (oa 2, .inl (cI, 4, .inl (fun j => nI ((up1 (fg_ Ln i) (i) (0)) j)))), (oa 3, .inl (cI, 60, .inl (fun j => nI (St j))))]) 2 0 dX10_forgetWay_18 rfl rfl (by first | decide | omega) (by omega) rfl ?_
        refine gw_iinc C (v := nI (i + 1)) (lv2 := [(1, iN (i + 1)), (0, .ref (oa 0))]) 0 dX10_forgetWay_19 rfl (nI_add _ _) (by omega) rfl ?_
        refine gw_goto C 7 dX10_forgetWay_22 (by decide) ?_
        refine gw_lv (lv2 := [(1, iN (i + 1)), (0, .ref (oa 0))]) [0, 1] rfl ?_
        exact ihi (i + 1) (by omega)
  refine gw_lv (lv2 := [(1, iN (0)), (0, .ref (oa 0))]) [0, 1] rfl ?_
  exact lp (4 - 0) 0 (by omega)
set_option maxHeartbeats 4000000 in
set_option maxRecDepth 100000 in
theorem c_Sinit (l : Launch) (D : va_G) (cI cB cS cJ cF cG : ClassId) (tt : Nat → Nat) (o0 : Nat) : gw_CV (S := (Nat → Nat) × (Nat → Nat) × (Nat → Nat)) l yX10_init wsX10_init 3 62 17 176 D (mo_ty cI cB cS cJ cF cG) (zs tt) ([(o0, .inr (8, [.null, .null, .null, .null, .null, .int 0, .int 0]))]) [.ref o0] (fun u => u.1 0 = o0) (fun u => ob_ws cI cG u.1 (u.2.1 0) (u.2.2 0) (fun _ => none) (fun _ => 0) (fun _ => 0) 0 0 ++ (cb_ws cI tt u.2.1 (rs_P (fun _ => 0) 8) (rs_M (fun _ => 0) 8) (rs_P (fun _ => 0) 12) (rs_M (fun _ => 0) 12) ++ cb_ws cI tt u.2.2 (rs_P (fun _ => 0) 8) (rs_M (fun _ => 0) 8) (rs_P (fun _ => 0) 12) (rs_M (fun _ => 0) 12))) := by
  refine gw_CV.of (cc := cX10_init) (maxL := 1) (zs_ok tt) (by decide) rfl (Nat.le_of_ble_eq_true rfl) ?_
  intro K C hkl hkn hkR hkD hmn ret
  have C : gw_x K cX10_init RX10 wsX10_init (mo_ty cI cB cS cJ cF cG) (zs tt) := C
  subst hkl hkD
  have hmn2 : (kM K).name = "<init>" := hmn
  have hrc : (kR K).cells = 17 := by rw [hkR]
  have hrs : (kR K).slots = 176 := by rw [hkR]
  have zq := C.2.2.2.1.2.2.2.2.2.2.2.2.2
  refine gw_aload_n C 0 dX10_init_0 rfl rfl ?_
  refine gw_objInit C dX10_init_1 (by decide +kernel) (by decide +kernel) (by decide +kernel) (by rw [hkR]; decide) (by rw [hkR]; decide) ?_
  refine gw_aload_n C 0 dX10_init_4 rfl rfl ?_
  refine gw_new C (ci := 1) (fs := [.null, .null]) tyX1 tyX1_ok in_X10_init_X1 dX10_init_5 (by decide +kernel) (by decide +kernel) (by decide +kernel) rfl (fun j hj => by rcases (show j = 0 ∨ j = 1 by omega) with h | h <;> subst h <;> rfl) (by omega) (by omega) (fun c1 => ?_)
  refine gw_ws (ws2 := [(o0, .inr (8, [.null, .null, .null, .null, .null, .int (0), .int (0)])), (c1, .inr (1, [.null, .null]))]) rfl ?_
  refine gw_dup C dX10_init_8 rfl ?_
  refine gw_callIV (n := 0) (wr := [(o0, .inr (8, [.null, .null, .null, .null, .null, .int (0), .int (0)]))]) C (c_cinit (kl K) (kD K) cI cB cS cJ cF cG tt c1) gX10_init_X1_init rfl (by decide +kernel) (by decide +kernel) (by decide +kernel) rfl (by decide +kernel) dX10_init_9 (by rw [hkR]; decide) (by rw [hrc, hrs]; decide) [1] [0] rfl rfl rfl rfl (by decide) rfl (Nat.le_of_ble_eq_true rfl) rfl (fun u hu => ?_)
  refine gw_ws (ws2 := [(o0, .inr (8, [.null, .null, .null, .null, .null, .int (0), .int (0)])), (u 0, .inr (1, [.ref (u 1), .ref (u 4)])), (u 1, .inr (5, [iN (8), iN (3), .ref (u 2), .ref (u 3), .ref (tt 0), .ref (tt 2)])), (u 2, .inl (cI, 8, .inl (fun j => nI ((rs_P (fun _ => 0) 8) j)))), (u 3, .inl (cI, 8, .inl (fun j => nI ((rs_M (fun _ => 0) 8) j)))), (u 4, .inr (5, [iN (12), iN (2), .ref (u 5), .ref (u 6), .ref (tt 1), .ref (tt 3)])), (u 5, .inl (cI, 12, .inl (fun j => nI ((rs_P (fun _ => 0) 12) j)))), (u 6, .inl (cI, 12, .inl (fun j => nI ((rs_M (fun _ => 0) 12) j))))]) rfl ?_
  subst hu
  refine gw_putF C (ty := (.object "StageCube$Cube")) (ws2 := [(o0, .inr (8, [.ref (u 0), .null, .null, .null, .null, .int (0), .int (0)])), (u 0, .inr (1, [.ref (u 1), .ref (u 4)])), (u 1, .inr (5, [iN (8), iN (3), .ref (u 2), .ref (u 3), .ref (tt 0), .ref (tt 2)])), (u 2, .inl (cI, 8, .inl (fun j => nI ((rs_P (fun _ => 0) 8) j)))), (u 3, .inl (cI, 8, .inl (fun j => nI ((rs_M (fun _ => 0) 8) j)))), (u 4, .inr (5, [iN (12), iN (2), .ref (u 5), .ref (u 6), .ref (tt 1), .ref (tt 3)])), (u 5, .inl (cI, 12, .inl (fun j => nI ((rs_P (fun _ => 0) 12) j)))), (u 6, .inl (cI, 12, .inl (fun j => nI ((rs_M (fun _ => 0) 12) j))))]) 0 0 tyX10 tyX10_ok nmX10 in_X10_init_X10 hmn2 dX10_init_12 lk_X10_init_10 rfl rfl (by decide) rfl rfl rfl (by decide +kernel) rfl rfl (Nat.le_of_ble_eq_true rfl) rfl ?_
  refine gw_aload_n C 0 dX10_init_15 rfl rfl ?_
  refine gw_new C (ci := 1) (fs := [.null, .null]) tyX1 tyX1_ok in_X10_init_X1 dX10_init_16 (by decide +kernel) (by decide +kernel) (by decide +kernel) rfl (fun j hj => by rcases (show j = 0 ∨ j = 1 by omega) with h | h <;> subst h <;> rfl) (by omega) (by omega) (fun c2 => ?_)
  refine gw_ws (ws2 := [(o0, .inr (8, [.ref (u 0), .null, .null, .null, .null, .int (0), .int (0)])), (u 0, .inr (1, [.ref (u 1), .ref (u 4)])), (u 1, .inr (5, [iN (8), iN (3), .ref (u 2), .ref (u 3), .ref (tt 0), .ref (tt 2)])), (u 2, .inl (cI, 8, .inl (fun j => nI ((rs_P (fun _ => 0) 8) j)))), (u 3, .inl (cI, 8, .inl (fun j => nI ((rs_M (fun _ => 0) 8) j)))), (u 4, .inr (5, [iN (12), iN (2), .ref (u 5), .ref (u 6), .ref (tt 1), .ref (tt 3)])), (u 5, .inl (cI, 12, .inl (fun j => nI ((rs_P (fun _ => 0) 12) j)))), (u 6, .inl (cI, 12, .inl (fun j => nI ((rs_M (fun _ => 0) 12) j)))), (c2, .inr (1, [.null, .null]))]) rfl ?_
  refine gw_dup C dX10_init_19 rfl ?_
  refine gw_callIV (n := 0) (wr := [(o0, .inr (8, [.ref (u 0), .null, .null, .null, .null, .int (0), .int (0)])), (u 0, .inr (1, [.ref (u 1), .ref (u 4)])), (u 1, .inr (5, [iN (8), iN (3), .ref (u 2), .ref (u 3), .ref (tt 0), .ref (tt 2)])), (u 2, .inl (cI, 8, .inl (fun j => nI ((rs_P (fun _ => 0) 8) j)))), (u 3, .inl (cI, 8, .inl (fun j => nI ((rs_M (fun _ => 0) 8) j)))), (u 4, .inr (5, [iN (12), iN (2), .ref (u 5), .ref (u 6), .ref (tt 1), .ref (tt 3)])), (u 5, .inl (cI, 12, .inl (fun j => nI ((rs_P (fun _ => 0) 12) j)))), (u 6, .inl (cI, 12, .inl (fun j => nI ((rs_M (fun _ => 0) 12) j))))]) C (c_cinit (kl K) (kD K) cI cB cS cJ cF cG tt c2) gX10_init_X1_init rfl (by decide +kernel) (by decide +kernel) (by decide +kernel) rfl (by decide +kernel) dX10_init_20 (by rw [hkR]; decide) (by rw [hrc, hrs]; decide) [8] [0, 1, 2, 3, 4, 5, 6, 7] rfl rfl rfl rfl (by decide) rfl (Nat.le_of_ble_eq_true rfl) rfl (fun v hv => ?_)
  refine gw_ws (ws2 := [(o0, .inr (8, [.ref (u 0), .null, .null, .null, .null, .int (0), .int (0)])), (u 0, .inr (1, [.ref (u 1), .ref (u 4)])), (u 1, .inr (5, [iN (8), iN (3), .ref (u 2), .ref (u 3), .ref (tt 0), .ref (tt 2)])), (u 2, .inl (cI, 8, .inl (fun j => nI ((rs_P (fun _ => 0) 8) j)))), (u 3, .inl (cI, 8, .inl (fun j => nI ((rs_M (fun _ => 0) 8) j)))), (u 4, .inr (5, [iN (12), iN (2), .ref (u 5), .ref (u 6), .ref (tt 1), .ref (tt 3)])), (u 5, .inl (cI, 12, .inl (fun j => nI ((rs_P (fun _ => 0) 12) j)))), (u 6, .inl (cI, 12, .inl (fun j => nI ((rs_M (fun _ => 0) 12) j)))), (v 0, .inr (1, [.ref (v 1), .ref (v 4)])), (v 1, .inr (5, [iN (8), iN (3), .ref (v 2), .ref (v 3), .ref (tt 0), .ref (tt 2)])), (v 2, .inl (cI, 8, .inl (fun j => nI ((rs_P (fun _ => 0) 8) j)))), (v 3, .inl (cI, 8, .inl (fun j => nI ((rs_M (fun _ => 0) 8) j)))), (v 4, .inr (5, [iN (12), iN (2), .ref (v 5), .ref (v 6), .ref (tt 1), .ref (tt 3)])), (v 5, .inl (cI, 12, .inl (fun j => nI ((rs_P (fun _ => 0) 12) j)))), (v 6, .inl (cI, 12, .inl (fun j => nI ((rs_M (fun _ => 0) 12) j))))]) rfl ?_
  subst hv
  refine gw_putF C (ty := (.object "StageCube$Cube")) (ws2 := [(o0, .inr (8, [.ref (u 0), .ref (v 0), .null, .null, .null, .int (0), .int (0)])), (u 0, .inr (1, [.ref (u 1), .ref (u 4)])), (u 1, .inr (5, [iN (8), iN (3), .ref (u 2), .ref (u 3), .ref (tt 0), .ref (tt 2)])), (u 2, .inl (cI, 8, .inl (fun j => nI ((rs_P (fun _ => 0) 8) j)))), (u 3, .inl (cI, 8, .inl (fun j => nI ((rs_M (fun _ => 0) 8) j)))), (u 4, .inr (5, [iN (12), iN (2), .ref (u 5), .ref (u 6), .ref (tt 1), .ref (tt 3)])), (u 5, .inl (cI, 12, .inl (fun j => nI ((rs_P (fun _ => 0) 12) j)))), (u 6, .inl (cI, 12, .inl (fun j => nI ((rs_M (fun _ => 0) 12) j)))), (v 0, .inr (1, [.ref (v 1), .ref (v 4)])), (v 1, .inr (5, [iN (8), iN (3), .ref (v 2), .ref (v 3), .ref (tt 0), .ref (tt 2)])), (v 2, .inl (cI, 8, .inl (fun j => nI ((rs_P (fun _ => 0) 8) j)))), (v 3, .inl (cI, 8, .inl (fun j => nI ((rs_M (fun _ => 0) 8) j)))), (v 4, .inr (5, [iN (12), iN (2), .ref (v 5), .ref (v 6), .ref (tt 1), .ref (tt 3)])), (v 5, .inl (cI, 12, .inl (fun j => nI ((rs_P (fun _ => 0) 12) j)))), (v 6, .inl (cI, 12, .inl (fun j => nI ((rs_M (fun _ => 0) 12) j))))]) 0 1 tyX10 tyX10_ok nmX10 in_X10_init_X10 hmn2 dX10_init_23 lk_X10_init_16 rfl rfl (by decide) rfl rfl rfl (by decide +kernel) rfl rfl (Nat.le_of_ble_eq_true rfl) rfl ?_
  refine gw_aload_n C 0 dX10_init_26 rfl rfl ?_
  refine gw_iconst C 4 dX10_init_27 (by decide) ?_
  refine gw_newq C 5 4 zq.2.1 rfl dX10_init_28 (by decide +kernel) (by decide) (by omega) (by omega) (fun ga => ?_)
  refine gw_ws (ws2 := [(o0, .inr (8, [.ref (u 0), .ref (v 0), .null, .null, .null, .int (0), .int (0)])), (u 0, .inr (1, [.ref (u 1), .ref (u 4)])), (u 1, .inr (5, [iN (8), iN (3), .ref (u 2), .ref (u 3), .ref (tt 0), .ref (tt 2)])), (u 2, .inl (cI, 8, .inl (fun j => nI ((rs_P (fun _ => 0) 8) j)))), (u 3, .inl (cI, 8, .inl (fun j => nI ((rs_M (fun _ => 0) 8) j)))), (u 4, .inr (5, [iN (12), iN (2), .ref (u 5), .ref (u 6), .ref (tt 1), .ref (tt 3)])), (u 5, .inl (cI, 12, .inl (fun j => nI ((rs_P (fun _ => 0) 12) j)))), (u 6, .inl (cI, 12, .inl (fun j => nI ((rs_M (fun _ => 0) 12) j)))), (v 0, .inr (1, [.ref (v 1), .ref (v 4)])), (v 1, .inr (5, [iN (8), iN (3), .ref (v 2), .ref (v 3), .ref (tt 0), .ref (tt 2)])), (v 2, .inl (cI, 8, .inl (fun j => nI ((rs_P (fun _ => 0) 8) j)))), (v 3, .inl (cI, 8, .inl (fun j => nI ((rs_M (fun _ => 0) 8) j)))), (v 4, .inr (5, [iN (12), iN (2), .ref (v 5), .ref (v 6), .ref (tt 1), .ref (tt 3)])), (v 5, .inl (cI, 12, .inl (fun j => nI ((rs_P (fun _ => 0) 12) j)))), (v 6, .inl (cI, 12, .inl (fun j => nI ((rs_M (fun _ => 0) 12) j)))), (ga, .inl (cG, 4, .inr (.inr (.inr (.inr (fun _ => none))))))]) rfl ?_
  refine gw_putF C (ty := (.array (.object "StageCube$Stage"))) (ws2 := [(o0, .inr (8, [.ref (u 0), .ref (v 0), .ref (ga), .null, .null, .int (0), .int (0)])), (u 0, .inr (1, [.ref (u 1), .ref (u 4)])), (u 1, .inr (5, [iN (8), iN (3), .ref (u 2), .ref (u 3), .ref (tt 0), .ref (tt 2)])), (u 2, .inl (cI, 8, .inl (fun j => nI ((rs_P (fun _ => 0) 8) j)))), (u 3, .inl (cI, 8, .inl (fun j => nI ((rs_M (fun _ => 0) 8) j)))), (u 4, .inr (5, [iN (12), iN (2), .ref (u 5), .ref (u 6), .ref (tt 1), .ref (tt 3)])), (u 5, .inl (cI, 12, .inl (fun j => nI ((rs_P (fun _ => 0) 12) j)))), (u 6, .inl (cI, 12, .inl (fun j => nI ((rs_M (fun _ => 0) 12) j)))), (v 0, .inr (1, [.ref (v 1), .ref (v 4)])), (v 1, .inr (5, [iN (8), iN (3), .ref (v 2), .ref (v 3), .ref (tt 0), .ref (tt 2)])), (v 2, .inl (cI, 8, .inl (fun j => nI ((rs_P (fun _ => 0) 8) j)))), (v 3, .inl (cI, 8, .inl (fun j => nI ((rs_M (fun _ => 0) 8) j)))), (v 4, .inr (5, [iN (12), iN (2), .ref (v 5), .ref (v 6), .ref (tt 1), .ref (tt 3)])), (v 5, .inl (cI, 12, .inl (fun j => nI ((rs_P (fun _ => 0) 12) j)))), (v 6, .inl (cI, 12, .inl (fun j => nI ((rs_M (fun _ => 0) 12) j)))), (ga, .inl (cG, 4, .inr (.inr (.inr (.inr (fun _ => none))))))]) 0 2 tyX10 tyX10_ok nmX10 in_X10_init_X10 hmn2 dX10_init_31 lk_X10_init_21 rfl rfl (by decide) rfl rfl rfl (by decide +kernel) rfl rfl (Nat.le_of_ble_eq_true rfl) rfl ?_
  refine gw_aload_n C 0 dX10_init_34 rfl rfl ?_
  refine gw_iconst C 4 dX10_init_35 (by decide) ?_
  refine gw_newa C 0 dX10_init_36 rfl (by decide +kernel) rfl (fun _ _ h => h) (a0 := (4, .inl (fun _ => 0))) (fun _ => rfl) (by decide) (by decide) (by omega) (by omega) (fun la => ?_)
  refine gw_ws (ws2 := [(o0, .inr (8, [.ref (u 0), .ref (v 0), .ref (ga), .null, .null, .int (0), .int (0)])), (u 0, .inr (1, [.ref (u 1), .ref (u 4)])), (u 1, .inr (5, [iN (8), iN (3), .ref (u 2), .ref (u 3), .ref (tt 0), .ref (tt 2)])), (u 2, .inl (cI, 8, .inl (fun j => nI ((rs_P (fun _ => 0) 8) j)))), (u 3, .inl (cI, 8, .inl (fun j => nI ((rs_M (fun _ => 0) 8) j)))), (u 4, .inr (5, [iN (12), iN (2), .ref (u 5), .ref (u 6), .ref (tt 1), .ref (tt 3)])), (u 5, .inl (cI, 12, .inl (fun j => nI ((rs_P (fun _ => 0) 12) j)))), (u 6, .inl (cI, 12, .inl (fun j => nI ((rs_M (fun _ => 0) 12) j)))), (v 0, .inr (1, [.ref (v 1), .ref (v 4)])), (v 1, .inr (5, [iN (8), iN (3), .ref (v 2), .ref (v 3), .ref (tt 0), .ref (tt 2)])), (v 2, .inl (cI, 8, .inl (fun j => nI ((rs_P (fun _ => 0) 8) j)))), (v 3, .inl (cI, 8, .inl (fun j => nI ((rs_M (fun _ => 0) 8) j)))), (v 4, .inr (5, [iN (12), iN (2), .ref (v 5), .ref (v 6), .ref (tt 1), .ref (tt 3)])), (v 5, .inl (cI, 12, .inl (fun j => nI ((rs_P (fun _ => 0) 12) j)))), (v 6, .inl (cI, 12, .inl (fun j => nI ((rs_M (fun _ => 0) 12) j)))), (ga, .inl (cG, 4, .inr (.inr (.inr (.inr (fun _ => none)))))), (la, .inl (cI, 4, .inl (fun j => nI (((fun _ => 0)) j))))]) rfl ?_
  refine gw_putF C (ty := (.array .int)) (ws2 := [(o0, .inr (8, [.ref (u 0), .ref (v 0), .ref (ga), .ref (la), .null, .int (0), .int (0)])), (u 0, .inr (1, [.ref (u 1), .ref (u 4)])), (u 1, .inr (5, [iN (8), iN (3), .ref (u 2), .ref (u 3), .ref (tt 0), .ref (tt 2)])), (u 2, .inl (cI, 8, .inl (fun j => nI ((rs_P (fun _ => 0) 8) j)))), (u 3, .inl (cI, 8, .inl (fun j => nI ((rs_M (fun _ => 0) 8) j)))), (u 4, .inr (5, [iN (12), iN (2), .ref (u 5), .ref (u 6), .ref (tt 1), .ref (tt 3)])), (u 5, .inl (cI, 12, .inl (fun j => nI ((rs_P (fun _ => 0) 12) j)))), (u 6, .inl (cI, 12, .inl (fun j => nI ((rs_M (fun _ => 0) 12) j)))), (v 0, .inr (1, [.ref (v 1), .ref (v 4)])), (v 1, .inr (5, [iN (8), iN (3), .ref (v 2), .ref (v 3), .ref (tt 0), .ref (tt 2)])), (v 2, .inl (cI, 8, .inl (fun j => nI ((rs_P (fun _ => 0) 8) j)))), (v 3, .inl (cI, 8, .inl (fun j => nI ((rs_M (fun _ => 0) 8) j)))), (v 4, .inr (5, [iN (12), iN (2), .ref (v 5), .ref (v 6), .ref (tt 1), .ref (tt 3)])), (v 5, .inl (cI, 12, .inl (fun j => nI ((rs_P (fun _ => 0) 12) j)))), (v 6, .inl (cI, 12, .inl (fun j => nI ((rs_M (fun _ => 0) 12) j)))), (ga, .inl (cG, 4, .inr (.inr (.inr (.inr (fun _ => none)))))), (la, .inl (cI, 4, .inl (fun j => nI (((fun _ => 0)) j))))]) 0 3 tyX10 tyX10_ok nmX10 in_X10_init_X10 hmn2 dX10_init_38 lk_X10_init_25 rfl rfl (by decide) rfl rfl rfl (by decide +kernel) rfl rfl (Nat.le_of_ble_eq_true rfl) rfl ?_
  refine gw_aload_n C 0 dX10_init_41 rfl rfl ?_
  refine gw_bipush C 60 dX10_init_42 (by decide) ?_
  refine gw_newa C 0 dX10_init_44 rfl (by decide +kernel) rfl (fun _ _ h => h) (a0 := (60, .inl (fun _ => 0))) (fun _ => rfl) (by decide) (by decide) (by omega) (by omega) (fun sa => ?_)
  refine gw_ws (ws2 := [(o0, .inr (8, [.ref (u 0), .ref (v 0), .ref (ga), .ref (la), .null, .int (0), .int (0)])), (u 0, .inr (1, [.ref (u 1), .ref (u 4)])), (u 1, .inr (5, [iN (8), iN (3), .ref (u 2), .ref (u 3), .ref (tt 0), .ref (tt 2)])), (u 2, .inl (cI, 8, .inl (fun j => nI ((rs_P (fun _ => 0) 8) j)))), (u 3, .inl (cI, 8, .inl (fun j => nI ((rs_M (fun _ => 0) 8) j)))), (u 4, .inr (5, [iN (12), iN (2), .ref (u 5), .ref (u 6), .ref (tt 1), .ref (tt 3)])), (u 5, .inl (cI, 12, .inl (fun j => nI ((rs_P (fun _ => 0) 12) j)))), (u 6, .inl (cI, 12, .inl (fun j => nI ((rs_M (fun _ => 0) 12) j)))), (v 0, .inr (1, [.ref (v 1), .ref (v 4)])), (v 1, .inr (5, [iN (8), iN (3), .ref (v 2), .ref (v 3), .ref (tt 0), .ref (tt 2)])), (v 2, .inl (cI, 8, .inl (fun j => nI ((rs_P (fun _ => 0) 8) j)))), (v 3, .inl (cI, 8, .inl (fun j => nI ((rs_M (fun _ => 0) 8) j)))), (v 4, .inr (5, [iN (12), iN (2), .ref (v 5), .ref (v 6), .ref (tt 1), .ref (tt 3)])), (v 5, .inl (cI, 12, .inl (fun j => nI ((rs_P (fun _ => 0) 12) j)))), (v 6, .inl (cI, 12, .inl (fun j => nI ((rs_M (fun _ => 0) 12) j)))), (ga, .inl (cG, 4, .inr (.inr (.inr (.inr (fun _ => none)))))), (la, .inl (cI, 4, .inl (fun j => nI (((fun _ => 0)) j)))), (sa, .inl (cI, 60, .inl (fun j => nI (((fun _ => 0)) j))))]) rfl ?_
  refine gw_putF C (ty := (.array .int)) (ws2 := [(o0, .inr (8, [.ref (u 0), .ref (v 0), .ref (ga), .ref (la), .ref (sa), .int (0), .int (0)])), (u 0, .inr (1, [.ref (u 1), .ref (u 4)])), (u 1, .inr (5, [iN (8), iN (3), .ref (u 2), .ref (u 3), .ref (tt 0), .ref (tt 2)])), (u 2, .inl (cI, 8, .inl (fun j => nI ((rs_P (fun _ => 0) 8) j)))), (u 3, .inl (cI, 8, .inl (fun j => nI ((rs_M (fun _ => 0) 8) j)))), (u 4, .inr (5, [iN (12), iN (2), .ref (u 5), .ref (u 6), .ref (tt 1), .ref (tt 3)])), (u 5, .inl (cI, 12, .inl (fun j => nI ((rs_P (fun _ => 0) 12) j)))), (u 6, .inl (cI, 12, .inl (fun j => nI ((rs_M (fun _ => 0) 12) j)))), (v 0, .inr (1, [.ref (v 1), .ref (v 4)])), (v 1, .inr (5, [iN (8), iN (3), .ref (v 2), .ref (v 3), .ref (tt 0), .ref (tt 2)])), (v 2, .inl (cI, 8, .inl (fun j => nI ((rs_P (fun _ => 0) 8) j)))), (v 3, .inl (cI, 8, .inl (fun j => nI ((rs_M (fun _ => 0) 8) j)))), (v 4, .inr (5, [iN (12), iN (2), .ref (v 5), .ref (v 6), .ref (tt 1), .ref (tt 3)])), (v 5, .inl (cI, 12, .inl (fun j => nI ((rs_P (fun _ => 0) 12) j)))), (v 6, .inl (cI, 12, .inl (fun j => nI ((rs_M (fun _ => 0) 12) j)))), (ga, .inl (cG, 4, .inr (.inr (.inr (.inr (fun _ => none)))))), (la, .inl (cI, 4, .inl (fun j => nI (((fun _ => 0)) j)))), (sa, .inl (cI, 60, .inl (fun j => nI (((fun _ => 0)) j))))]) 0 4 tyX10 tyX10_ok nmX10 in_X10_init_X10 hmn2 dX10_init_46 lk_X10_init_29 rfl rfl (by decide) rfl rfl rfl (by decide +kernel) rfl rfl (Nat.le_of_ble_eq_true rfl) rfl ?_
  refine gw_aload_n C 0 dX10_init_49 rfl rfl ?_
  refine gw_iconst C 0 dX10_init_50 (by decide) ?_
  refine gw_put C (ty := .int) (ws2 := [(o0, .inr (8, [.ref (u 0), .ref (v 0), .ref (ga), .ref (la), .ref (sa), iN (0), .int (0)])), (u 0, .inr (1, [.ref (u 1), .ref (u 4)])), (u 1, .inr (5, [iN (8), iN (3), .ref (u 2), .ref (u 3), .ref (tt 0), .ref (tt 2)])), (u 2, .inl (cI, 8, .inl (fun j => nI ((rs_P (fun _ => 0) 8) j)))), (u 3, .inl (cI, 8, .inl (fun j => nI ((rs_M (fun _ => 0) 8) j)))), (u 4, .inr (5, [iN (12), iN (2), .ref (u 5), .ref (u 6), .ref (tt 1), .ref (tt 3)])), (u 5, .inl (cI, 12, .inl (fun j => nI ((rs_P (fun _ => 0) 12) j)))), (u 6, .inl (cI, 12, .inl (fun j => nI ((rs_M (fun _ => 0) 12) j)))), (v 0, .inr (1, [.ref (v 1), .ref (v 4)])), (v 1, .inr (5, [iN (8), iN (3), .ref (v 2), .ref (v 3), .ref (tt 0), .ref (tt 2)])), (v 2, .inl (cI, 8, .inl (fun j => nI ((rs_P (fun _ => 0) 8) j)))), (v 3, .inl (cI, 8, .inl (fun j => nI ((rs_M (fun _ => 0) 8) j)))), (v 4, .inr (5, [iN (12), iN (2), .ref (v 5), .ref (v 6), .ref (tt 1), .ref (tt 3)])), (v 5, .inl (cI, 12, .inl (fun j => nI ((rs_P (fun _ => 0) 12) j)))), (v 6, .inl (cI, 12, .inl (fun j => nI ((rs_M (fun _ => 0) 12) j)))), (ga, .inl (cG, 4, .inr (.inr (.inr (.inr (fun _ => none)))))), (la, .inl (cI, 4, .inl (fun j => nI (((fun _ => 0)) j)))), (sa, .inl (cI, 60, .inl (fun j => nI (((fun _ => 0)) j))))]) 0 5 tyX10 tyX10_ok nmX10 in_X10_init_X10 dX10_init_51 lk_X10_init_32 rfl rfl (by decide) rfl rfl (by decide +kernel) rfl rfl (Nat.le_of_ble_eq_true rfl) rfl ?_
  refine gw_aload_n C 0 dX10_init_54 rfl rfl ?_
  refine gw_iconst C 0 dX10_init_55 (by decide) ?_
  refine gw_put C (ty := .int) (ws2 := [(o0, .inr (8, [.ref (u 0), .ref (v 0), .ref (ga), .ref (la), .ref (sa), iN (0), iN (0)])), (u 0, .inr (1, [.ref (u 1), .ref (u 4)])), (u 1, .inr (5, [iN (8), iN (3), .ref (u 2), .ref (u 3), .ref (tt 0), .ref (tt 2)])), (u 2, .inl (cI, 8, .inl (fun j => nI ((rs_P (fun _ => 0) 8) j)))), (u 3, .inl (cI, 8, .inl (fun j => nI ((rs_M (fun _ => 0) 8) j)))), (u 4, .inr (5, [iN (12), iN (2), .ref (u 5), .ref (u 6), .ref (tt 1), .ref (tt 3)])), (u 5, .inl (cI, 12, .inl (fun j => nI ((rs_P (fun _ => 0) 12) j)))), (u 6, .inl (cI, 12, .inl (fun j => nI ((rs_M (fun _ => 0) 12) j)))), (v 0, .inr (1, [.ref (v 1), .ref (v 4)])), (v 1, .inr (5, [iN (8), iN (3), .ref (v 2), .ref (v 3), .ref (tt 0), .ref (tt 2)])), (v 2, .inl (cI, 8, .inl (fun j => nI ((rs_P (fun _ => 0) 8) j)))), (v 3, .inl (cI, 8, .inl (fun j => nI ((rs_M (fun _ => 0) 8) j)))), (v 4, .inr (5, [iN (12), iN (2), .ref (v 5), .ref (v 6), .ref (tt 1), .ref (tt 3)])), (v 5, .inl (cI, 12, .inl (fun j => nI ((rs_P (fun _ => 0) 12) j)))), (v 6, .inl (cI, 12, .inl (fun j => nI ((rs_M (fun _ => 0) 12) j)))), (ga, .inl (cG, 4, .inr (.inr (.inr (.inr (fun _ => none)))))), (la, .inl (cI, 4, .inl (fun j => nI (((fun _ => 0)) j)))), (sa, .inl (cI, 60, .inl (fun j => nI (((fun _ => 0)) j))))]) 0 6 tyX10 tyX10_ok nmX10 in_X10_init_X10 dX10_init_56 lk_X10_init_36 rfl rfl (by decide) rfl rfl (by decide +kernel) rfl rfl (Nat.le_of_ble_eq_true rfl) rfl ?_
  exact gw_perm [0, 15, 16, 17, 1, 2, 3, 4, 5, 6, 7, 8, 9, 10, 11, 12, 13, 14] rfl (by decide) trivial (ret ((fun j => if j = 0 then o0 else if j = 1 then ga else if j = 2 then la else sa), u, v) dX10_init_59 rfl rfl (by decide) (by decide))
