theorem in_X11_make : ∀ w ∈ wsX110, w ∈ wsX11_make := fun _ h => List.mem_cons_of_mem _ (List.mem_append_right _ h)
theorem lk_X11_make_140 : Cond.fieldLink RX11 140 "StageCubeModel" "made" "Z" ∈ wsX11_make := by decide +kernel
set_option maxHeartbeats 4000000 in
set_option maxRecDepth 100000 in
theorem c_make (l : Launch) (D : va_G) (cI cB cS cJ cF cG : ClassId) (zz : (Nat → Prop) → State → Heap → Prop) (hz : gw_zT zz) (o : Nat) (ad : Nat → Nat) (N : Nat → Nat → Nat) (M1 M2 M3 M4 M5 M6 : Nat → Nat → Nat) (h19 : N 19 0 = 0) (h1 : gw_CV l yX11_makeFirst wsX11_makeFirst 0 0 0 0 D (mo_ty cI cB cS cJ cF cG) zz (mo_ws o ad cI cB cS (mo_up N 19 0 1)) [.ref o] (fun N' => N' = M1) (fun N' => mo_ws o ad cI cB cS N')) (h2 : gw_CV l yX11_makeNumbers wsX11_makeNumbers 1 22 0 0 D (mo_ty cI cB cS cJ cF cG) zz (mo_ws o ad cI cB cS (M1)) [.ref o] (fun N' => N' = M2) (fun N' => mo_ws o ad cI cB cS N')) (h3 : gw_CV l yX11_makeSecond wsX11_makeSecond 2 50 0 0 D (mo_ty cI cB cS cJ cF cG) zz (mo_ws o ad cI cB cS (M2)) [.ref o] (fun N' => N' = M3) (fun N' => mo_ws o ad cI cB cS N')) (h4 : gw_CV l yX11_makeKinds wsX11_makeKinds 2 50 0 0 D (mo_ty cI cB cS cJ cF cG) zz (mo_ws o ad cI cB cS (M3)) [.ref o] (fun N' => N' = M4) (fun N' => mo_ws o ad cI cB cS N')) (h5 : gw_CV l yX11_makeThird wsX11_makeThird 2 50 0 0 D (mo_ty cI cB cS cJ cF cG) zz (mo_ws o ad cI cB cS (M4)) [.ref o] (fun N' => N' = M5) (fun N' => mo_ws o ad cI cB cS N')) (h6 : gw_CV l yX11_makeFourth wsX11_makeFourth 2 50 0 0 D (mo_ty cI cB cS cJ cF cG) zz (mo_ws o ad cI cB cS (M5)) [.ref o] (fun N' => N' = M6) (fun N' => mo_ws o ad cI cB cS N')) : gw_CV l yX11_make wsX11_make 3 76 0 0 D (mo_ty cI cB cS cJ cF cG) zz (mo_ws o ad cI cB cS N) [.ref o] (fun N' => N' = M6) (fun N' => mo_ws o ad cI cB cS N') := by
  refine gw_CV.of (cc := cX11_make) (maxL := 1) hz (by decide) rfl (Nat.le_of_ble_eq_true rfl) ?_
  intro K C hkl hkn hkR hkD hmn ret
  have C : gw_x K cX11_make RX11 wsX11_make (mo_ty cI cB cS cJ cF cG) zz := C
  subst hkl hkD
  refine gw_aload_n C 0 dX11_make_0 rfl rfl ?_
  refine gw_get (v := iN (N 19 (0))) C 0 19 in_X11_make dX11_make_1 lk_X11_make_140 rfl rfl (by decide) rfl (by first | rfl | simp [mo_up]) ?_
  have q19 : N 19 0 < 2 ^ 31 := by omega
  refine gw_if_eq C 8 dX11_make_4 (by decide) (by omega) (fun h61 => ?_) (fun h61 => ?_)
  ·
    refine gw_aload_n C 0 dX11_make_8 rfl rfl ?_
    refine gw_iconst C 1 dX11_make_9 (by decide) ?_
    refine gw_put C (ty := .boolean) 0 19 tyX11 tyX11_ok nmX11 in_X11_make dX11_make_10 lk_X11_make_140 rfl rfl (by decide) rfl rfl (by decide +kernel) (by first | rfl | omega) (by first | rfl | omega) (Nat.le_of_ble_eq_true rfl) mo_st19 ?_
    refine gw_aload_n C 0 dX11_make_13 rfl rfl ?_
    refine gw_allVV (n := 0) C (h1) 0 rfl rfl rfl gX11_make_X11_makeFirst rfl (by decide +kernel) dX11_make_14 (by rw [hkR]; decide) (by rw [hkR]; decide) rfl (Nat.le_of_ble_eq_true rfl) rfl (fun v0 hv0 => ?_)
    subst hv0
    refine gw_aload_n C 0 dX11_make_17 rfl rfl ?_
    refine gw_allVV (n := 0) C (h2) 0 rfl rfl rfl gX11_make_X11_makeNumbers rfl (by decide +kernel) dX11_make_18 (by rw [hkR]; decide) (by rw [hkR]; decide) rfl (Nat.le_of_ble_eq_true rfl) rfl (fun v1 hv1 => ?_)
    subst hv1
    refine gw_aload_n C 0 dX11_make_21 rfl rfl ?_
    refine gw_allVV (n := 0) C (h3) 0 rfl rfl rfl gX11_make_X11_makeSecond rfl (by decide +kernel) dX11_make_22 (by rw [hkR]; decide) (by rw [hkR]; decide) rfl (Nat.le_of_ble_eq_true rfl) rfl (fun v2 hv2 => ?_)
    subst hv2
    refine gw_aload_n C 0 dX11_make_25 rfl rfl ?_
    refine gw_allVV (n := 0) C (h4) 0 rfl rfl rfl gX11_make_X11_makeKinds rfl (by decide +kernel) dX11_make_26 (by rw [hkR]; decide) (by rw [hkR]; decide) rfl (Nat.le_of_ble_eq_true rfl) rfl (fun v3 hv3 => ?_)
    subst hv3
    refine gw_aload_n C 0 dX11_make_29 rfl rfl ?_
    refine gw_allVV (n := 0) C (h5) 0 rfl rfl rfl gX11_make_X11_makeThird rfl (by decide +kernel) dX11_make_30 (by rw [hkR]; decide) (by rw [hkR]; decide) rfl (Nat.le_of_ble_eq_true rfl) rfl (fun v4 hv4 => ?_)
    subst hv4
    refine gw_aload_n C 0 dX11_make_33 rfl rfl ?_
    refine gw_allVV (n := 0) C (h6) 0 rfl rfl rfl gX11_make_X11_makeFourth rfl (by decide +kernel) dX11_make_34 (by rw [hkR]; decide) (by rw [hkR]; decide) rfl (Nat.le_of_ble_eq_true rfl) rfl (fun v5 hv5 => ?_)
    subst hv5
    exact ret _ dX11_make_37 rfl rfl (Nat.le_refl 0) (Nat.le_refl 0)
  ·
    exact absurd h19 h61
set_option maxHeartbeats 4000000 in
set_option maxRecDepth 100000 in
theorem c_make_made (l : Launch) (D : va_G) (cI cB cS cJ cF cG : ClassId) (zz : (Nat → Prop) → State → Heap → Prop) (hz : gw_zT zz) (o : Nat) (ad : Nat → Nat) (N : Nat → Nat → Nat) (h19 : N 19 0 = 1) : gw_CV l yX11_make wsX11_make 3 76 0 0 D (mo_ty cI cB cS cJ cF cG) zz (mo_ws o ad cI cB cS N) [.ref o] (fun N' => N' = N) (fun N' => mo_ws o ad cI cB cS N') := by
  refine gw_CV.of (cc := cX11_make) (maxL := 1) hz (by decide) rfl (Nat.le_of_ble_eq_true rfl) ?_
  intro K C hkl hkn hkR hkD hmn ret
  have C : gw_x K cX11_make RX11 wsX11_make (mo_ty cI cB cS cJ cF cG) zz := C
  refine gw_aload_n C 0 dX11_make_0 rfl rfl ?_
  refine gw_get (v := iN (N 19 (0))) C 0 19 in_X11_make dX11_make_1 lk_X11_make_140 rfl rfl (by decide) rfl (by first | rfl | simp [mo_up]) ?_
  have q19 : N 19 0 < 2 ^ 31 := by omega
  refine gw_if_eq C 8 dX11_make_4 (by decide) (by omega) (fun h62 => ?_) (fun h62 => ?_)
  ·
    exact absurd h62 (by omega)
  ·
    exact ret _ dX11_make_7 rfl rfl (Nat.le_refl 0) (Nat.le_refl 0)
def mo_sv0 (N : Nat → Nat → Nat) : Nat → Nat → Nat := mo_up (mo_up N 15 0 0) 16 0 0
theorem mo_sv0_k {k : Nat} (h1 : k ≠ 15) (h2 : k ≠ 16) (N : Nat → Nat → Nat) : mo_sv0 N k = N k := by funext j; simp [mo_sv0, mo_up, h1, h2]
theorem mo_law_6 (N : Nat → Nat → Nat) : mo_law N < 2 ^ 32 := by
  rw [mo_law]
  repeat' split
  all_goals decide
theorem in_X11_solve : ∀ w ∈ wsX110, w ∈ wsX11_solve := fun _ h => List.mem_cons_of_mem _ (List.mem_append_right _ h)
theorem lk_X11_solve_196 : Cond.fieldLink RX11 196 "StageCubeModel" "steps" "I" ∈ wsX11_solve := by decide +kernel
theorem lk_X11_solve_199 : Cond.fieldLink RX11 199 "StageCubeModel" "hasWay" "Z" ∈ wsX11_solve := by decide +kernel
set_option maxHeartbeats 4000000 in
set_option maxRecDepth 100000 in
theorem c_solve_no (l : Launch) (D : va_G) (cI cB cS cJ cF cG : ClassId) (zz : (Nat → Prop) → State → Heap → Prop) (hz : gw_zT zz) (o : Nat) (ad : Nat → Nat) (N : Nat → Nat → Nat) (h0 : ∀ j, j < 8 → N 0 j < 8) (h1 : ∀ j, j < 8 → N 1 j < 3) (h2 : ∀ j, j < 12 → N 2 j < 12) (h3 : ∀ j, j < 12 → N 3 j < 2) (hl : mo_law (mo_sv0 N) ≠ 1) : gw_CI l yX11_solve wsX11_solve 4 96 0 0 D (mo_ty cI cB cS cJ cF cG) zz (mo_ws o ad cI cB cS N) [.ref o] (fun r N' => r = nI (mo_law (mo_sv0 N)) ∧ N' = mo_sv0 N) (fun N' => mo_ws o ad cI cB cS N') := by
  refine gw_CI.of (cc := cX11_solve) (maxL := 3) (rt := .int) hz (by decide) rfl (Nat.le_of_ble_eq_true rfl) ?_
  intro K C hkl hkn hkR hkD hmn ret
  have C : gw_x K cX11_solve RX11 wsX11_solve (mo_ty cI cB cS cJ cF cG) zz := C
  subst hkl hkD
  refine gw_aload_n C 0 dX11_solve_0 rfl rfl ?_
  refine gw_iconst C 0 dX11_solve_1 (by decide) ?_
  refine gw_put C (ty := .boolean) 0 15 tyX11 tyX11_ok nmX11 in_X11_solve dX11_solve_2 lk_X11_solve_199 rfl rfl (by decide) rfl rfl (by decide +kernel) (by first | rfl | omega) (by first | rfl | omega) (Nat.le_of_ble_eq_true rfl) mo_st15 ?_
  refine gw_aload_n C 0 dX11_solve_5 rfl rfl ?_
  refine gw_iconst C 0 dX11_solve_6 (by decide) ?_
  refine gw_put C (ty := .int) 0 16 tyX11 tyX11_ok nmX11 in_X11_solve dX11_solve_7 lk_X11_solve_196 rfl rfl (by decide) rfl rfl (by decide +kernel) rfl rfl (Nat.le_of_ble_eq_true rfl) mo_st16 ?_
  rw [show mo_up (mo_up N 15 0 0) 16 0 0 = mo_sv0 N from rfl]
  refine gw_aload_n C 0 dX11_solve_10 rfl rfl ?_
  refine gw_allVI (n := 0) C (c_lawful (kl K) (kD K) cI cB cS cJ cF cG zz hz o ad (mo_sv0 N) (fun j hj => by rw [mo_sv0_k (by decide) (by decide)]; exact h0 j hj) (fun j hj => by rw [mo_sv0_k (by decide) (by decide)]; exact h1 j hj) (fun j hj => by rw [mo_sv0_k (by decide) (by decide)]; exact h2 j hj) (fun j hj => by rw [mo_sv0_k (by decide) (by decide)]; exact h3 j hj)) 0 rfl rfl rfl gX11_solve_X11_lawful rfl (by decide +kernel) dX11_solve_11 (by rw [hkR]; decide) (by rw [hkR]; decide) rfl (Nat.le_of_ble_eq_true rfl) rfl (fun rv1 v1 hv1 => ?_)
  obtain ⟨rfl, rfl⟩ := hv1
  have l6 := mo_law_6 (mo_sv0 N)
  refine gw_istore_n C (lv2 := [(1, iN (mo_law (mo_sv0 N))), (0, .ref (o))]) dX11_solve_14 rfl (by omega) rfl ?_
  refine gw_iload_n C 0 dX11_solve_15 rfl rfl ?_
  refine gw_iconst C 1 dX11_solve_16 (by decide) ?_
  refine gw_icmp_eq32 C 22 dX11_solve_17 (by decide) (by omega) (by omega) (fun h63 => ?_) (fun h63 => ?_)
  ·
    exact absurd h63 hl
  ·
    refine gw_iload_n C 0 dX11_solve_20 rfl rfl ?_
    exact ret _ dX11_solve_21 rfl ⟨rfl, rfl⟩ rfl (Nat.le_refl 0) (Nat.le_refl 0)
set_option maxHeartbeats 4000000 in
set_option maxRecDepth 100000 in
theorem c_solve (l : Launch) (D : va_G) (cI cB cS cJ cF cG : ClassId) (zz : (Nat → Prop) → State → Heap → Prop) (hz : gw_zT zz) (o : Nat) (ad : Nat → Nat) (N : Nat → Nat → Nat) (h0 : ∀ j, j < 8 → N 0 j < 8) (h1 : ∀ j, j < 8 → N 1 j < 3) (h2 : ∀ j, j < 12 → N 2 j < 12) (h3 : ∀ j, j < 12 → N 3 j < 2) (hl : mo_law (mo_sv0 N) = 1) (M : Nat → Nat → Nat) (W : Nat → Nat → Nat → Nat) (hmk : gw_CV l yX11_make wsX11_make 3 76 0 0 D (mo_ty cI cB cS cJ cF cG) zz (mo_ws o ad cI cB cS (mo_sv0 N)) [.ref o] (fun N' => N' = M) (fun N' => mo_ws o ad cI cB cS N')) (hW0 : W 0 = mo_lk 12 M) (hw : ∀ st, st < 4 → gw_CV l yX11_walk wsX11_walk 2 50 0 0 D (mo_ty cI cB cS cJ cF cG) zz (mo_ws o ad cI cB cS (W st)) [.ref o, iN st] (fun N' => N' = W (st + 1)) (fun N' => mo_ws o ad cI cB cS N')) : gw_CI l yX11_solve wsX11_solve 4 96 0 0 D (mo_ty cI cB cS cJ cF cG) zz (mo_ws o ad cI cB cS N) [.ref o] (fun r N' => r = nI (W 4 16 0) ∧ N' = mo_up (W 4) 15 0 1) (fun N' => mo_ws o ad cI cB cS N') := by
  refine gw_CI.of (cc := cX11_solve) (maxL := 3) (rt := .int) hz (by decide) rfl (Nat.le_of_ble_eq_true rfl) ?_
  intro K C hkl hkn hkR hkD hmn ret
  have C : gw_x K cX11_solve RX11 wsX11_solve (mo_ty cI cB cS cJ cF cG) zz := C
  subst hkl hkD
  refine gw_aload_n C 0 dX11_solve_0 rfl rfl ?_
  refine gw_iconst C 0 dX11_solve_1 (by decide) ?_
  refine gw_put C (ty := .boolean) 0 15 tyX11 tyX11_ok nmX11 in_X11_solve dX11_solve_2 lk_X11_solve_199 rfl rfl (by decide) rfl rfl (by decide +kernel) (by first | rfl | omega) (by first | rfl | omega) (Nat.le_of_ble_eq_true rfl) mo_st15 ?_
  refine gw_aload_n C 0 dX11_solve_5 rfl rfl ?_
  refine gw_iconst C 0 dX11_solve_6 (by decide) ?_
  refine gw_put C (ty := .int) 0 16 tyX11 tyX11_ok nmX11 in_X11_solve dX11_solve_7 lk_X11_solve_196 rfl rfl (by decide) rfl rfl (by decide +kernel) rfl rfl (Nat.le_of_ble_eq_true rfl) mo_st16 ?_
  rw [show mo_up (mo_up N 15 0 0) 16 0 0 = mo_sv0 N from rfl]
  refine gw_aload_n C 0 dX11_solve_10 rfl rfl ?_
  refine gw_allVI (n := 0) C (c_lawful (kl K) (kD K) cI cB cS cJ cF cG zz hz o ad (mo_sv0 N) (fun j hj => by rw [mo_sv0_k (by decide) (by decide)]; exact h0 j hj) (fun j hj => by rw [mo_sv0_k (by decide) (by decide)]; exact h1 j hj) (fun j hj => by rw [mo_sv0_k (by decide) (by decide)]; exact h2 j hj) (fun j hj => by rw [mo_sv0_k (by decide) (by decide)]; exact h3 j hj)) 0 rfl rfl rfl gX11_solve_X11_lawful rfl (by decide +kernel) dX11_solve_11 (by rw [hkR]; decide) (by rw [hkR]; decide) rfl (Nat.le_of_ble_eq_true rfl) rfl (fun rv1 v1 hv1 => ?_)
  obtain ⟨rfl, rfl⟩ := hv1
  have l6 := mo_law_6 (mo_sv0 N)
  refine gw_istore_n C (lv2 := [(1, iN (mo_law (mo_sv0 N))), (0, .ref (o))]) dX11_solve_14 rfl (by omega) rfl ?_
  refine gw_iload_n C 0 dX11_solve_15 rfl rfl ?_
  refine gw_iconst C 1 dX11_solve_16 (by decide) ?_
  refine gw_icmp_eq32 C 22 dX11_solve_17 (by decide) (by omega) (by omega) (fun h64 => ?_) (fun h64 => ?_)
  ·
    refine gw_aload_n C 1 dX11_solve_22 rfl rfl ?_
    refine gw_allVV (n := 0) C (hmk) 0 rfl rfl rfl gX11_solve_X11_make rfl (by decide +kernel) dX11_solve_23 (by rw [hkR]; decide) (by rw [hkR]; decide) rfl (Nat.le_of_ble_eq_true rfl) rfl (fun v2 hv2 => ?_)
    subst hv2
    refine gw_aload_n C 1 dX11_solve_26 rfl rfl ?_
    refine gw_allVV (n := 0) C (c_look (kl K) (kD K) cI cB cS cJ cF cG zz hz o ad v2) 0 rfl rfl rfl gX11_solve_X11_look rfl (by decide +kernel) dX11_solve_27 (by rw [hkR]; decide) (by rw [hkR]; decide) rfl (Nat.le_of_ble_eq_true rfl) rfl (fun v3 hv3 => ?_)
    subst hv3
    rw [← hW0]
    refine gw_iconst C 0 dX11_solve_30 (by decide) ?_
    refine gw_istore_n C (lv2 := [(2, iN (0)), (1, iN (mo_law (mo_sv0 N))), (0, .ref (o))]) dX11_solve_31 rfl (by omega) rfl ?_
    refine gw_lv (lv2 := [(2, iN (0)), (0, .ref (o))]) [0, 2] rfl ?_
    have lp : ∀ nst st : Nat, st + nst = 4 → gw_G K (mo_ws o ad cI cB cS (W st)) 0 0 32 [(2, iN (st)), (0, .ref (o))] [] := by
      intro nst
      induction nst with
      | zero =>
        intro st hist
        refine gw_iload_n C 0 dX11_solve_32 rfl rfl ?_
        refine gw_iconst C 4 dX11_solve_33 (by decide) ?_
        refine gw_icmp_ge C 48 dX11_solve_34 (by decide) (by omega) (by omega) (fun h65 => ?_) (fun h65 => ?_)
        ·
          rw [show st = 4 by omega]
          refine gw_aload_n C 1 dX11_solve_48 rfl rfl ?_
          refine gw_iconst C 1 dX11_solve_49 (by decide) ?_
          refine gw_put C (ty := .boolean) 0 15 tyX11 tyX11_ok nmX11 in_X11_solve dX11_solve_50 lk_X11_solve_199 rfl rfl (by decide) rfl rfl (by decide +kernel) (by first | rfl | omega) (by first | rfl | omega) (Nat.le_of_ble_eq_true rfl) mo_st15 ?_
          refine gw_aload_n C 1 dX11_solve_53 rfl rfl ?_
          refine gw_get (v := iN ((W 4) 16 (0))) C 0 16 in_X11_solve dX11_solve_54 lk_X11_solve_196 rfl rfl (by decide) rfl (by first | rfl | simp [mo_up]) ?_
          exact ret _ dX11_solve_57 rfl ⟨rfl, rfl⟩ rfl (Nat.le_refl 0) (Nat.le_refl 0)
        ·
          exact absurd h65 (by omega)
      | succ nst ihst =>
        intro st hist
        refine gw_iload_n C 0 dX11_solve_32 rfl rfl ?_
        refine gw_iconst C 4 dX11_solve_33 (by decide) ?_
        refine gw_icmp_ge C 48 dX11_solve_34 (by decide) (by omega) (by omega) (fun h66 => ?_) (fun h66 => ?_)
        ·
          exact absurd h66 (by omega)
        ·
          refine gw_aload_n C 1 dX11_solve_37 rfl rfl ?_
          refine gw_iload_n C 0 dX11_solve_38 rfl rfl ?_
          refine gw_allVV (n := 1) C (hw st (by omega)) 0 rfl rfl rfl gX11_solve_X11_walk rfl (by decide +kernel) dX11_solve_39 (by rw [hkR]; decide) (by rw [hkR]; decide) rfl (Nat.le_of_ble_eq_true rfl) rfl (fun v4 hv4 => ?_)
          subst hv4
          refine gw_iinc C (v := nI (st + 1)) (lv2 := [(2, iN (st + 1)), (0, .ref (o))]) 0 dX11_solve_42 rfl (nI_add _ _) (by omega) rfl ?_
          refine gw_goto C 32 dX11_solve_45 (by decide) ?_
          refine gw_lv (lv2 := [(2, iN (st + 1)), (0, .ref (o))]) [0, 1] rfl ?_
          exact ihst (st + 1) (by omega)
    refine gw_lv (lv2 := [(2, iN (0)), (0, .ref (o))]) [0, 1] rfl ?_
    exact lp (4 - 0) 0 (by omega)
  ·
    exact absurd hl h64
theorem in_X11_flips : ∀ w ∈ wsX110, w ∈ wsX11_flips := fun _ h => List.mem_cons_of_mem _ (List.mem_append_right _ h)
set_option maxHeartbeats 4000000 in
set_option maxRecDepth 100000 in
theorem c_flips_no (l : Launch) (D : va_G) (cI cB cS cJ cF cG : ClassId) (zz : (Nat → Prop) → State → Heap → Prop) (hz : gw_zT zz) (o : Nat) (ad : Nat → Nat) (N : Nat → Nat → Nat) (h0 : ∀ j, j < 8 → N 0 j < 8) (h1 : ∀ j, j < 8 → N 1 j < 3) (h2 : ∀ j, j < 12 → N 2 j < 12) (h3 : ∀ j, j < 12 → N 3 j < 2) (hl : mo_law N ≠ 1) : gw_CI l yX11_flips wsX11_flips 4 96 0 0 D (mo_ty cI cB cS cJ cF cG) zz (mo_ws o ad cI cB cS N) [.ref o] (fun r N' => r = nI (mo_law N) ∧ N' = N) (fun N' => mo_ws o ad cI cB cS N') := by
  refine gw_CI.of (cc := cX11_flips) (maxL := 2) (rt := .int) hz (by decide) rfl (Nat.le_of_ble_eq_true rfl) ?_
  intro K C hkl hkn hkR hkD hmn ret
  have C : gw_x K cX11_flips RX11 wsX11_flips (mo_ty cI cB cS cJ cF cG) zz := C
  subst hkl hkD
  refine gw_aload_n C 0 dX11_flips_0 rfl rfl ?_
  refine gw_allVI (n := 0) C (c_lawful (kl K) (kD K) cI cB cS cJ cF cG zz hz o ad N h0 h1 h2 h3) 0 rfl rfl rfl gX11_flips_X11_lawful rfl (by decide +kernel) dX11_flips_1 (by rw [hkR]; decide) (by rw [hkR]; decide) rfl (Nat.le_of_ble_eq_true rfl) rfl (fun rv1 v1 hv1 => ?_)
  obtain ⟨rfl, rfl⟩ := hv1
  have l6 := mo_law_6 v1
  refine gw_istore_n C (lv2 := [(1, iN (mo_law v1)), (0, .ref (o))]) dX11_flips_4 rfl (by omega) rfl ?_
  refine gw_iload_n C 0 dX11_flips_5 rfl rfl ?_
  refine gw_iconst C 1 dX11_flips_6 (by decide) ?_
  refine gw_icmp_eq32 C 12 dX11_flips_7 (by decide) (by omega) (by omega) (fun h67 => ?_) (fun h67 => ?_)
  ·
    exact absurd h67 hl
  ·
    refine gw_iload_n C 0 dX11_flips_10 rfl rfl ?_
    exact ret _ dX11_flips_11 rfl ⟨rfl, rfl⟩ rfl (Nat.le_refl 0) (Nat.le_refl 0)
set_option maxHeartbeats 4000000 in
set_option maxRecDepth 100000 in
theorem c_flips (l : Launch) (D : va_G) (cI cB cS cJ cF cG : ClassId) (zz : (Nat → Prop) → State → Heap → Prop) (hz : gw_zT zz) (o : Nat) (ad : Nat → Nat) (N : Nat → Nat → Nat) (h0 : ∀ j, j < 8 → N 0 j < 8) (h1 : ∀ j, j < 8 → N 1 j < 3) (h2 : ∀ j, j < 12 → N 2 j < 12) (h3 : ∀ j, j < 12 → N 3 j < 2) (hl : mo_law N = 1) (M : Nat → Nat → Nat) (hmk : gw_CV l yX11_make wsX11_make 3 76 0 0 D (mo_ty cI cB cS cJ cF cG) zz (mo_ws o ad cI cB cS (N)) [.ref o] (fun N' => N' = M) (fun N' => mo_ws o ad cI cB cS N')) (hf7 : ∀ j, j < 12 → mo_lk 12 M 7 j < 2) : gw_CI l yX11_flips wsX11_flips 4 96 0 0 D (mo_ty cI cB cS cJ cF cG) zz (mo_ws o ad cI cB cS N) [.ref o] (fun r N' => r = nI (mo_far0 (mo_lk 12 M)) ∧ N' = mo_lk 12 M) (fun N' => mo_ws o ad cI cB cS N') := by
  refine gw_CI.of (cc := cX11_flips) (maxL := 2) (rt := .int) hz (by decide) rfl (Nat.le_of_ble_eq_true rfl) ?_
  intro K C hkl hkn hkR hkD hmn ret
  have C : gw_x K cX11_flips RX11 wsX11_flips (mo_ty cI cB cS cJ cF cG) zz := C
  subst hkl hkD
  refine gw_aload_n C 0 dX11_flips_0 rfl rfl ?_
  refine gw_allVI (n := 0) C (c_lawful (kl K) (kD K) cI cB cS cJ cF cG zz hz o ad N h0 h1 h2 h3) 0 rfl rfl rfl gX11_flips_X11_lawful rfl (by decide +kernel) dX11_flips_1 (by rw [hkR]; decide) (by rw [hkR]; decide) rfl (Nat.le_of_ble_eq_true rfl) rfl (fun rv1 v1 hv1 => ?_)
  obtain ⟨rfl, rfl⟩ := hv1
  have l6 := mo_law_6 v1
  refine gw_istore_n C (lv2 := [(1, iN (mo_law v1)), (0, .ref (o))]) dX11_flips_4 rfl (by omega) rfl ?_
  refine gw_iload_n C 0 dX11_flips_5 rfl rfl ?_
  refine gw_iconst C 1 dX11_flips_6 (by decide) ?_
  refine gw_icmp_eq32 C 12 dX11_flips_7 (by decide) (by omega) (by omega) (fun h68 => ?_) (fun h68 => ?_)
  ·
    refine gw_aload_n C 1 dX11_flips_12 rfl rfl ?_
    refine gw_allVV (n := 0) C (hmk) 0 rfl rfl rfl gX11_flips_X11_make rfl (by decide +kernel) dX11_flips_13 (by rw [hkR]; decide) (by rw [hkR]; decide) rfl (Nat.le_of_ble_eq_true rfl) rfl (fun v2 hv2 => ?_)
    subst hv2
    refine gw_aload_n C 1 dX11_flips_16 rfl rfl ?_
    refine gw_allVV (n := 0) C (c_look (kl K) (kD K) cI cB cS cJ cF cG zz hz o ad v2) 0 rfl rfl rfl gX11_flips_X11_look rfl (by decide +kernel) dX11_flips_17 (by rw [hkR]; decide) (by rw [hkR]; decide) rfl (Nat.le_of_ble_eq_true rfl) rfl (fun v3 hv3 => ?_)
    subst hv3
    refine gw_aload_n C 1 dX11_flips_20 rfl rfl ?_
    refine gw_iconst C 0 dX11_flips_21 (by decide) ?_
    refine gw_allVI (n := 1) C (c_far0 (kl K) (kD K) cI cB cS cJ cF cG zz hz o ad (mo_lk 12 v2) hf7) 0 rfl rfl rfl gX11_flips_X11_far rfl (by decide +kernel) dX11_flips_22 (by rw [hkR]; decide) (by rw [hkR]; decide) rfl (Nat.le_of_ble_eq_true rfl) rfl (fun rv4 v4 hv4 => ?_)
    obtain ⟨rfl, rfl⟩ := hv4
    exact ret _ dX11_flips_25 rfl ⟨rfl, rfl⟩ rfl (Nat.le_refl 0) (Nat.le_refl 0)
  ·
    exact absurd hl h68
